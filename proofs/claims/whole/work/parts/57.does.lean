/-! THE MODEL: a statement of the text is done; the text is performed -/
def DsPo (A : AS) (F : Nat → Int32) (I : MI) (R : MR) : Po := fun r g' I' R' => g0 = g' ∧ R = R' ∧ Kp 413 I I' ∧ ((psR A F < 0 ∧ ¬ psR A F = -1006 ∧ r = some (.int (psR A F))) ∨ ((¬ psR A F < 0 ∨ psR A F = -1006) ∧ r = some (.int (if psR A F = -1006 then -1006 else 0)) ∧ MS (I' 318) 413 (psA A F) ∧ okM (psA A F)))
theorem DsPo.err {A : AS} {F : Nat → Int32} {I : MI} {R : MR} {w : Int32} (h : psF A F = w) (hw : w = -1001 ∨ w = -1003 ∨ w = -1004) : DsPo A F I R (some (.int w)) g0 I R := by
  have e : psR A F = w := by
    unfold psR
    rw [if_neg (by rw [h]; rcases hw with z | z | z <;> rw [z] <;> decide), h]
  refine ⟨rfl, rfl, Kp.rf _ _, Or.inl ?_⟩
  rw [e]
  rcases hw with z | z | z <;> rw [z] <;> exact ⟨by decide, by decide, rfl⟩
theorem DsPo.none {A : AS} {F : Nat → Int32} {I : MI} {R : MR} (h : psF A F = -1006) (hm : MS (I 318) 413 A) (ok : okM A) : DsPo A F I R (some (.int (-1006))) g0 I R := by
  have e : psR A F = -1006 := by
    unfold psR
    rw [if_neg (by rw [h]; decide), h]
  have e2 : psA A F = A := by
    unfold psA
    rw [if_neg (by rw [h]; decide)]
  exact ⟨rfl, rfl, Kp.rf _ _, Or.inr ⟨Or.inr e, by rw [if_pos e], by rw [e2]; exact hm, by rw [e2]; exact ok⟩⟩
theorem DsPo.ran {A : AS} {F : Nat → Int32} {I I' : MI} {R : MR} {ev : Int32} {img : Nat → Int32} (h : psF A F = 0) (hX : psX A F = XR ev img A) (hk : Kp 413 I I') (hm : MS (I' 318) 413 (finA (XR ev img A))) (ok : okM (finA (XR ev img A))) (e11 : I' 317 11 = xR (XR ev img A)) : (I' 317 11 ≤ 0 → DsPo A F I R (some (.int 0)) g0 I' R) ∧ (¬ I' 317 11 ≤ 0 → DsPo A F I R (some (.int (-1005))) g0 I' R) := by
  have eR : psR A F = runR (XR ev img A) := by unfold psR; rw [if_pos h, hX]
  have eA : psA A F = runA (XR ev img A) := by unfold psA; rw [if_pos h, hX]
  have hO := (XR_stb ev img A).2
  refine ⟨fun z => ?_, fun z => ?_⟩
  · have x0 : xR (XR ev img A) = 0 := Int32.le_antisymm (e11 ▸ z) (Int32.not_lt.mp (XR_nn ev img A))
    have r0 : runR (XR ev img A) = nI (xO (XR ev img A)) := if_pos x0
    have a0 : runA (XR ev img A) = finA (XR ev img A) := if_pos x0
    have hn : ¬ nI (xO (XR ev img A)) = -1006 := by
      have key : ∀ n : Fin 101, ¬ nI n.1 = -1006 := by decide
      exact key ⟨xO (XR ev img A), by omega⟩
    exact ⟨rfl, rfl, hk, Or.inr ⟨Or.inl (by rw [eR, r0]; exact nI_pos (by omega)), by rw [eR, r0, if_neg hn], by rw [eA, a0]; exact hm, by rw [eA, a0]; exact ok⟩⟩
  · have x0 : ¬ xR (XR ev img A) = 0 := fun q => z (by rw [e11, q]; exact Int32.le_refl _)
    have r0 : runR (XR ev img A) = -1005 := if_neg x0
    exact ⟨rfl, rfl, hk, Or.inl (by rw [eR, r0]; exact ⟨by decide, by decide, rfl⟩)⟩
theorem wnI_no {A : AS} {k : Int32} (h : ¬ wnI A k = 0) : wnI A k = -1001 ∨ wnI A k = -1003 ∨ wnI A k = -1004 := by
  unfold wnI at h ⊢
  split at h
  next c => rw [if_pos c]; exact Or.inr (Or.inr rfl)
  next c =>
    rw [if_neg c]
    split at h
    · exact absurd rfl h
    next c2 => rw [if_neg c2]; exact Or.inr (Or.inl rfl)
theorem wnI_0 {A : AS} {k : Int32} (hk : ¬ inR k 0 99 = 0) (h : wnI A k = 0) : cantA A k = 1 := by
  unfold wnI at h
  unfold cantA
  rw [if_neg hk]
  split at h
  · exact absurd h (by decide)
  next c =>
    rw [if_neg c]
    split at h
    next c2 => rw [if_pos c2]
    · exact absurd h (by decide)
theorem wnU_no {A : AS} {k v : Int32} {f : Nat} (h : ¬ wnU A k f v = 0) (h2 : ¬ wnU A k f v = -1006) : wnU A k f v = -1001 := by
  unfold wnU at h h2 ⊢
  rcases hf : fK A k with _ | i
  · rfl
  · rw [hf] at h h2
    simp only at h h2 ⊢
    split at h
    next c => rw [if_pos c] at h2; exact absurd rfl h2
    · exact absurd rfl h
theorem wnU_0 {A : AS} {k v : Int32} {f : Nat} (hf3 : f < 3) (h : wnU A k f v = 0) : prUp A k (nI f) v = some (updI A k (nI f) v) := by
  unfold wnU at h
  unfold prUp updI
  rcases hf : fK A k with _ | i
  · rw [hf] at h; exact absurd (show (-1001 : Int32) = 0 from h) (by decide)
  · rw [hf] at h
    simp only at h ⊢
    rw [rowF_n hf3]
    split at h
    · exact absurd h (by decide)
    next c => rw [if_neg c]
theorem ite5 {a b c d e : Int32} {F : Nat → Int32} {G : Nat → Int32} (h : G = fun k => if k = 4 then a else if k = 5 then b else if k = 7 then c else if k = 8 then d else if k = 9 then e else F k) : G 4 = a ∧ G 5 = b ∧ G 7 = c ∧ G 8 = d ∧ G 9 = e := by
  subst h
  exact ⟨rfl, rfl, rfl, rfl, rfl⟩
theorem ite4 {a b c d : Int32} {F : Nat → Int32} {G : Nat → Int32} (h : G = fun k => if k = 4 then a else if k = 5 then b else if k = 6 then c else if k = 7 then d else F k) : G 4 = a ∧ G 5 = b ∧ G 6 = c ∧ G 7 = d := by
  subst h
  exact ⟨rfl, rfl, rfl, rfl⟩
theorem ins_F {tx : Nat → Int32} {n p : Nat} (F : Nat → Int32) (h : sgn tx n p = 105) : (bodS tx n (p, false) F).2 4 = 0 ∧ (bodS tx n (p, false) F).2 5 = (numF2 tx n 2 (p + 1, false)).1 ∧ (bodS tx n (p, false) F).2 7 = (valF2 tx n (passF tx n 61 (numF2 tx n 2 (p + 1, false)).2)).1 ∧ (bodS tx n (p, false) F).2 8 = (valF2 tx n (passF tx n 44 (valF2 tx n (passF tx n 61 (numF2 tx n 2 (p + 1, false)).2)).2)).1 ∧ (bodS tx n (p, false) F).2 9 = (valF2 tx n (passF tx n 44 (valF2 tx n (passF tx n 44 (valF2 tx n (passF tx n 61 (numF2 tx n 2 (p + 1, false)).2)).2)).2)).1 := by
  unfold bodS
  rw [if_neg (show ¬ hereF tx n (p, false) = 100 by rw [show hereF tx n (p, false) = 105 from h]; decide), if_pos (show hereF tx n (p, false) = 105 from h)]
  unfold insS
  rw [pass_here h]
  exact ite5 rfl
theorem upd_F {tx : Nat → Int32} {n p : Nat} (F : Nat → Int32) (h : sgn tx n p = 117) : (bodS tx n (p, false) F).2 4 = 1 ∧ (bodS tx n (p, false) F).2 5 = (numF2 tx n 2 (p + 1, false)).1 ∧ (bodS tx n (p, false) F).2 6 = (digF tx n 2 (passF tx n 46 (numF2 tx n 2 (p + 1, false)).2)).1 ∧ (bodS tx n (p, false) F).2 7 = (valF2 tx n (passF tx n 61 (digF tx n 2 (passF tx n 46 (numF2 tx n 2 (p + 1, false)).2)).2)).1 := by
  unfold bodS
  rw [if_neg (show ¬ hereF tx n (p, false) = 100 by rw [show hereF tx n (p, false) = 117 from h]; decide), if_neg (show ¬ hereF tx n (p, false) = 105 by rw [show hereF tx n (p, false) = 117 from h]; decide), if_pos (show hereF tx n (p, false) = 117 from h)]
  unfold updS
  rw [pass_here h]
  exact ite4 rfl
theorem del_F {tx : Nat → Int32} {n p : Nat} (F : Nat → Int32) (h : sgn tx n p = 100) : (bodS tx n (p, false) F).2 4 = 2 ∧ (bodS tx n (p, false) F).2 5 = (numF2 tx n 2 (p + 1, false)).1 := by
  unfold bodS
  rw [if_pos (show hereF tx n (p, false) = 100 from h)]
  unfold delS
  rw [pass_here h]
  exact ⟨rfl, rfl⟩
theorem digF_ok {tx : Nat → Int32} {n q : Nat} (h : (digF tx n 2 (q, false)).2.2 = false) : ¬ dgF (sgn tx n q) 2 = 0 ∧ digF tx n 2 (q, false) = (sgn tx n q - 48, (q + 1, false)) := by
  by_cases c : dgF (sgn tx n q) 2 = 0
  · rw [digF_no c] at h; exact absurd h (by simp)
  · exact ⟨c, digF_yes c⟩
theorem dg2_val {c : Int32} (h : ¬ dgF c 2 = 0) : ∃ f, f < 3 ∧ c - 48 = nI f ∧ ¬ dgF c 9 = 0 := by
  have h1 : ¬ inR c 48 50 = 0 := h
  obtain ⟨a, b⟩ := inR_iff h1
  obtain ⟨j, hj, rfl⟩ := nI_of2 (M := 50) (n := 50) rfl (fun z => a (Int32.lt_trans z (by decide))) (Int32.not_lt.mp b)
  have h48 : 48 ≤ j := by
    rcases Nat.lt_or_ge j 48 with z | z
    · exact absurd (show nI j < 48 from nI_lt (b := 48) z (by decide)) a
    · exact z
  refine ⟨j - 48, by omega, nI_sub (a := j) (b := 48) h48, ?_⟩
  rcases (show j = 48 ∨ j = 49 ∨ j = 50 by omega) with rfl | rfl | rfl <;> decide
set_option maxRecDepth 100000 in
set_option maxHeartbeats 1000000 in
theorem M_does (tx : Nat → Int32) (n : Nat) (p e : Nat) (F : Nat → Int32) (A : AS) (I : MI) (R : MR) (hFR : FR R) (hT : TXM I tx n) (hM0 : MS (I 318) 413 A) (ok : okM A) (hpn : p ≤ n + 1) (hx : (bodS tx n (p, false) F).1 = (e, false)) (he : dgF (sgn tx n e) 9 = 0) : Sp 9 0 0 mX11_does [.ref 317, .int (nI p)] g0 I R (DsPo A (bodS tx n (p, false) F).2 I R) := by
  have hm0 := hFR.2.2.2.2.2.1
  have hm1 := hFR.2.2.2.2.2.2.1
  have hm3 := hFR.2.2.2.2.2.2.2.1
  have hm5 := hFR.2.2.2.2.2.2.2.2.1
  have hm7 := hFR.2.2.2.2.2.2.2.2.2
  have t1 := hT.1
  have t2 := hT.2.1
  have t3 := hT.2.2
  refine Sp.on (by decide +kernel) rfl rfl (fun J hM => ?_)
  have hJ := hM.ok
  have hmo := (bod_mono (tx := tx) (n := n) F hpn).2 (by rw [hx])
  have hpn2 : p < n := by have := hmo.1; have h2 := hmo.2; rw [hx] at this h2; have a1 : p + 1 ≤ e := this; have a2 : e ≤ n := h2; omega
  by_cases h105 : sgn tx n p = 105
  · have hb := bod_i F h105
    obtain ⟨f4, f5, f7, f8, f9⟩ := ins_F F h105
    rw [hx] at hb
    rcases hN0 : numF2 tx n 2 (p + 1, false) with ⟨k, P1⟩
    rw [hN0] at hb f5 f7 f8 f9
    rcases hV10 : valF2 tx n (passF tx n 61 P1) with ⟨v1, P2⟩
    have hb1 : (e, false) = (valF2 tx n (passF tx n 44 (valF2 tx n (passF tx n 44 (valF2 tx n (passF tx n 61 P1)).2)).2)).2 := hb
    rw [hV10] at hb1
    rcases hV20 : valF2 tx n (passF tx n 44 P2) with ⟨v2, P3⟩
    have hb2 : (e, false) = (valF2 tx n (passF tx n 44 (valF2 tx n (passF tx n 44 P2)).2)).2 := hb1
    rw [hV20] at hb2
    rcases hV30 : valF2 tx n (passF tx n 44 P3) with ⟨v3, P4⟩
    have hb3 : (e, false) = (valF2 tx n (passF tx n 44 P3)).2 := hb2
    rw [hV30] at hb3
    have hP4 : P4 = (e, false) := hb3.symm
    obtain ⟨g3, s3, t3'⟩ := val_ok (tx := tx) (n := n) (c := 44) (Q := P3) (by rw [hV30, hP4])
    obtain ⟨g2, s2, t2'⟩ := val_ok (tx := tx) (n := n) (c := 44) (Q := P2) (by rw [hV20, g3])
    obtain ⟨g1, s1, t1'⟩ := val_ok (tx := tx) (n := n) (c := 61) (Q := P1) (by rw [hV10, g2])
    obtain ⟨e1, he1⟩ : ∃ x, x = P1.1 := ⟨_, rfl⟩
    obtain ⟨e2, he2⟩ : ∃ x, x = P2.1 := ⟨_, rfl⟩
    obtain ⟨e3, he3⟩ : ∃ x, x = P3.1 := ⟨_, rfl⟩
    have hN1 : numF2 tx n 2 (p + 1, false) = (k, (e1, false)) := by rw [hN0, g1, he1]
    have hV1 : valF2 tx n (e1 + 1, false) = (v1, (e2, false)) := by rw [he1, ← t1', hV10, g2, he2]
    have hV2 : valF2 tx n (e2 + 1, false) = (v2, (e3, false)) := by rw [he2, ← t2', hV20, g3, he3]
    have hV3 : valF2 tx n (e3 + 1, false) = (v3, (e, false)) := by rw [he3, ← t3', hV30, hP4]
    have hs1 : dgF (sgn tx n e1) 9 = 0 := by rw [he1, s1]; decide
    have hs2 : dgF (sgn tx n e2) 9 = 0 := by rw [he2, s2]; decide
    have hs3 : dgF (sgn tx n e3) 9 = 0 := by rw [he3, s3]; decide
    have l1 : e1 < n := sgn_lt (tx := tx) (by rw [he1, s1]; decide)
    have l2 : e2 < n := sgn_lt (tx := tx) (by rw [he2, s2]; decide)
    have l3 : e3 < n := sgn_lt (tx := tx) (by rw [he3, s3]; decide)
    have hkr : ¬ inR k 0 99 = 0 := by have := num_key tx n (p + 1, false); rw [hN0] at this; exact this
    have w1 : ¬ inR v1 (-999) 999 = 0 := by have := val_in tx n (passF tx n 61 P1); rw [hV10] at this; exact this
    have w2 : ¬ inR v2 (-999) 999 = 0 := by have := val_in tx n (passF tx n 44 P2); rw [hV20] at this; exact this
    have w3 : ¬ inR v3 (-999) 999 = 0 := by have := val_in tx n (passF tx n 44 P3); rw [hV30] at this; exact this
    have q7 : (bodS tx n (p, false) F).2 7 = v1 := by rw [f7, hV10]
    have q8 : (bodS tx n (p, false) F).2 8 = v2 := by rw [f8, hV10, hV20]
    have q9 : (bodS tx n (p, false) F).2 9 = v3 := by rw [f9, hV10, hV20, hV30]
    have hps : psF A (bodS tx n (p, false) F).2 = wnI A k := by
      unfold psF
      rw [if_pos f4, f5, q7, q8, q9]
      exact (Value.int.inj (Option.some.inj (insF_wn hkr w1 w2 w3))).symm
    have hpx : psX A (bodS tx n (p, false) F).2 = XR 0 (insI k v1 v2 v3) A := by
      unfold psX
      rw [if_pos f4, f5, q7, q8, q9]
    refine q_aload_n hJ dX11_does_0 (q := 1) rfl rfl (by first | rfl | exact isR_rr _) ?_
    refine q_iload_n hJ dX11_does_1 (q := 2) rfl rfl ?_
    refine q_iconst hJ (v := 1) dX11_does_2 (q := 3) rfl (by decide) ?_
    refine q_iadd hJ dX11_does_3 (q := 4) rfl ?_
    rw [nI_1 p]
    refine q_callV hJ dX11_does_4 (q := 7) rfl (M_numAt (p + 1) 2 e1 k (by omega) (by decide) tx n I R hFR hT hN1 hs1) imX11_numberAt ln_X11_192 (by first | exact ka317 | exact ka318 | exact ka319 | exact ka320 | exact ka321 | exact ka322) (by decide) rfl rfl rfl rfl (Nat.le_of_ble_eq_true rfl) (by decide) (by decide) rfl rfl (fun rv gv Iv Rv hv => ?_)
    obtain ⟨rfl, rfl, rfl, rfl⟩ := hv
    refine q_istore_n hJ dX11_does_7 (q := 8) rfl (by decide) ?_
    refine q_aload_n hJ dX11_does_8 (q := 9) rfl rfl (by first | rfl | exact isR_rr _) ?_
    refine q_iload_n hJ dX11_does_9 (q := 10) rfl rfl ?_
    refine q_iconst hJ (v := 1) dX11_does_10 (q := 11) rfl (by decide) ?_
    refine q_iadd hJ dX11_does_11 (q := 12) rfl ?_
    refine q_iconst hJ (v := 2) dX11_does_12 (q := 13) rfl (by decide) ?_
    rw [nI_1 p]
    refine q_callV hJ dX11_does_13 (q := 16) rfl (M_numberEnd (p + 1) 2 (by omega) (by decide) tx n I R hFR hT) imX11_numberEnd ln_X11_171 (by first | exact ka317 | exact ka318 | exact ka319 | exact ka320 | exact ka321 | exact ka322) (by decide) rfl rfl rfl rfl (Nat.le_of_ble_eq_true rfl) (by decide) (by decide) rfl rfl (fun rv gv Iv Rv hv => ?_)
    obtain ⟨rfl, rfl, rfl, rfl⟩ := hv
    rw [show enc (numF2 tx n 2 (p + 1, false)).2 = nI e1 from congrArg (fun z : Int32 × PS => enc z.2) hN1]
    refine q_istore_n hJ dX11_does_16 (q := 17) rfl (by decide) ?_
    refine q_aload_n hJ dX11_does_17 (q := 18) rfl rfl (by first | rfl | exact isR_rr _) ?_
    refine q_sipush hJ (v := 413) dX11_does_18 (q := 21) rfl (by decide) ?_
    refine q_iload_n hJ dX11_does_21 (q := 22) rfl rfl ?_
    refine q_callV hJ dX11_does_22 (q := 25) rfl (M_rowOf I R 413 (aN A) k (by decide) hM0.1.1 hM0.1.2.1 hFR) imX11_rowOf ln_X11_54 (by first | exact ka317 | exact ka318 | exact ka319 | exact ka320 | exact ka321 | exact ka322) (by decide) rfl rfl rfl rfl (Nat.le_of_ble_eq_true rfl) (by decide) (by decide) rfl rfl (fun rv gv Iv Rv hv => ?_)
    obtain ⟨rfl, rfl, rfl, rfl⟩ := hv
    refine q_if_ge hJ (tgt := 34) dX11_does_25 (q := 28) rfl (by decide) (fun cr => ?_) (fun cr => ?_)
    · refine q_iconst hJ (v := 0) dX11_does_34 (q := 35) rfl (by decide) ?_
      refine q_istore hJ dX11_does_35 (q := 37) rfl (by decide) ?_
      refine q_aload_n hJ dX11_does_37 (q := 38) rfl rfl (by first | rfl | exact isR_rr _) ?_
      refine q_iload_n hJ dX11_does_38 (q := 39) rfl rfl ?_
      refine q_callV hJ dX11_does_39 (q := 42) rfl (M_sign p (by omega) tx n I R hFR hT) imX11_sign ln_X11_164 (by first | exact ka317 | exact ka318 | exact ka319 | exact ka320 | exact ka321 | exact ka322) (by decide) rfl rfl rfl rfl (Nat.le_of_ble_eq_true rfl) (by decide) (by decide) rfl rfl (fun rv gv Iv Rv hv => ?_)
      obtain ⟨rfl, rfl, rfl, rfl⟩ := hv
      refine q_bipush hJ (v := 105) dX11_does_42 (q := 44) rfl (by decide) ?_
      refine q_icmp_ne hJ (tgt := 113) dX11_does_44 (q := 47) rfl (by decide) (fun cz => absurd h105 cz) (fun _ => ?_)
      refine q_aload_n hJ dX11_does_47 (q := 48) rfl rfl (by first | rfl | exact isR_rr _) ?_
      refine q_iload_n hJ dX11_does_48 (q := 49) rfl rfl ?_
      refine q_iconst hJ (v := 1) dX11_does_49 (q := 50) rfl (by decide) ?_
      refine q_iadd hJ dX11_does_50 (q := 51) rfl ?_
      rw [nI_1 e1]
      refine q_callV hJ dX11_does_51 (q := 54) rfl (M_valueEnd (e1 + 1) (by omega) tx n I R hFR hT) imX11_valueEnd ln_X11_177 (by first | exact ka317 | exact ka318 | exact ka319 | exact ka320 | exact ka321 | exact ka322) (by decide) rfl rfl rfl rfl (Nat.le_of_ble_eq_true rfl) (by decide) (by decide) rfl rfl (fun rv gv Iv Rv hv => ?_)
      obtain ⟨rfl, rfl, rfl, rfl⟩ := hv
      rw [show enc (valF2 tx n (e1 + 1, false)).2 = nI e2 from congrArg (fun z : Int32 × PS => enc z.2) hV1]
      refine q_iconst hJ (v := 1) dX11_does_54 (q := 55) rfl (by decide) ?_
      refine q_iadd hJ dX11_does_55 (q := 56) rfl ?_
      rw [nI_1 e2]
      refine q_istore hJ dX11_does_56 (q := 58) rfl (by decide) ?_
      refine q_aload_n hJ dX11_does_58 (q := 59) rfl rfl (by first | rfl | exact isR_rr _) ?_
      refine q_iload hJ dX11_does_59 (q := 61) rfl rfl ?_
      refine q_callV hJ dX11_does_61 (q := 64) rfl (M_valueEnd (e2 + 1) (by omega) tx n I R hFR hT) imX11_valueEnd ln_X11_177 (by first | exact ka317 | exact ka318 | exact ka319 | exact ka320 | exact ka321 | exact ka322) (by decide) rfl rfl rfl rfl (Nat.le_of_ble_eq_true rfl) (by decide) (by decide) rfl rfl (fun rv gv Iv Rv hv => ?_)
      obtain ⟨rfl, rfl, rfl, rfl⟩ := hv
      rw [show enc (valF2 tx n (e2 + 1, false)).2 = nI e3 from congrArg (fun z : Int32 × PS => enc z.2) hV2]
      refine q_iconst hJ (v := 1) dX11_does_64 (q := 65) rfl (by decide) ?_
      refine q_iadd hJ dX11_does_65 (q := 66) rfl ?_
      rw [nI_1 e3]
      refine q_istore hJ dX11_does_66 (q := 68) rfl (by decide) ?_
      refine q_aload_n hJ dX11_does_68 (q := 69) rfl rfl (by first | rfl | exact isR_rr _) ?_
      refine q_sipush hJ (v := 413) dX11_does_69 (q := 72) rfl (by decide) ?_
      refine q_iload_n hJ dX11_does_72 (q := 73) rfl rfl ?_
      refine q_callV hJ dX11_does_73 (q := 76) rfl (M_whyNotInsert 413 (by decide) k A I R hFR hM0.1 ok.1) imX11_whyNotInsert ln_X11_129 (by first | exact ka317 | exact ka318 | exact ka319 | exact ka320 | exact ka321 | exact ka322) (by decide) rfl rfl rfl rfl (Nat.le_of_ble_eq_true rfl) (by decide) (by decide) rfl rfl (fun rv gv Iv Rv hv => ?_)
      obtain ⟨rfl, rfl, rfl, rfl⟩ := hv
      refine q_istore hJ dX11_does_76 (q := 78) rfl (by decide) ?_
      refine q_iload hJ dX11_does_78 (q := 80) rfl rfl ?_
      refine q_if_ne hJ (tgt := 110) dX11_does_80 (q := 83) rfl (by decide) (fun c8 => ?_) (fun c8 => ?_)
      · refine q_goto hJ (tgt := 189) dX11_does_110 (by decide) ?_
        refine q_iload hJ dX11_does_189 (q := 191) rfl rfl ?_
        refine q_if_ne hJ (tgt := 207) dX11_does_191 (q := 194) rfl (by decide) (fun c9 => ?_) (fun c9 => ?_)
        · refine q_iload hJ dX11_does_207 (q := 209) rfl rfl ?_
          refine q_iret hM dX11_does_209 rfl rfl ?_
          first
            | exact absurd c8 c9
            | exact absurd c9 c8
            | exact DsPo.err hps (wnI_no c8)
            | (rw [c8]; exact hran.1 c10)
            | exact hran.2 c10
            | fail
        · refine q_aload_n hJ dX11_does_194 (q := 195) rfl rfl (by first | rfl | exact isR_rr _) ?_
          refine q_getI hJ dX11_does_195 (q := 198) rfl fl_X11_48 rfl (by first | exact ka317 | exact ka318 | exact ka319 | exact ka320 | exact ka321 | exact ka322) rfl ?_
          refine q_if_le hJ (tgt := 207) dX11_does_198 (q := 201) rfl (by decide) (fun c10 => ?_) (fun c10 => ?_)
          · refine q_iload hJ dX11_does_207 (q := 209) rfl rfl ?_
            refine q_iret hM dX11_does_209 rfl rfl ?_
            first
              | exact absurd c8 c9
              | exact absurd c9 c8
              | exact DsPo.err hps (wnI_no c8)
              | (rw [c8]; exact hran.1 c10)
              | exact hran.2 c10
              | fail
          · refine q_sipush hJ (v := (-1005)) dX11_does_201 (q := 204) rfl (by decide) ?_
            refine q_goto hJ (tgt := 209) dX11_does_204 (by decide) ?_
            refine q_iret hM dX11_does_209 rfl rfl ?_
            first
              | exact absurd c8 c9
              | exact absurd c9 c8
              | exact DsPo.err hps (wnI_no c8)
              | (rw [c8]; exact hran.1 c10)
              | exact hran.2 c10
              | fail
      · refine q_aload_n hJ dX11_does_83 (q := 84) rfl rfl (by first | rfl | exact isR_rr _) ?_
        refine q_sipush hJ (v := 413) dX11_does_84 (q := 87) rfl (by decide) ?_
        refine q_iload_n hJ dX11_does_87 (q := 88) rfl rfl ?_
        refine q_aload_n hJ dX11_does_88 (q := 89) rfl rfl (by first | rfl | exact isR_rr _) ?_
        refine q_iload_n hJ dX11_does_89 (q := 90) rfl rfl ?_
        refine q_iconst hJ (v := 1) dX11_does_90 (q := 91) rfl (by decide) ?_
        refine q_iadd hJ dX11_does_91 (q := 92) rfl ?_
        rw [nI_1 e1]
        refine q_callV hJ dX11_does_92 (q := 95) rfl (M_valAt (e1 + 1) e2 v1 (by omega) tx n I R hFR hT hV1 hs2) imX11_numberAt ln_X11_192 (by first | exact ka317 | exact ka318 | exact ka319 | exact ka320 | exact ka321 | exact ka322) (by decide) rfl rfl rfl rfl (Nat.le_of_ble_eq_true rfl) (by decide) (by decide) rfl rfl (fun rv gv Iv Rv hv => ?_)
        obtain ⟨rfl, rfl, rfl, rfl⟩ := hv
        refine q_aload_n hJ dX11_does_95 (q := 96) rfl rfl (by first | rfl | exact isR_rr _) ?_
        refine q_iload hJ dX11_does_96 (q := 98) rfl rfl ?_
        refine q_callV hJ dX11_does_98 (q := 101) rfl (M_valAt (e2 + 1) e3 v2 (by omega) tx n I R hFR hT hV2 hs3) imX11_numberAt ln_X11_192 (by first | exact ka317 | exact ka318 | exact ka319 | exact ka320 | exact ka321 | exact ka322) (by decide) rfl rfl rfl rfl (Nat.le_of_ble_eq_true rfl) (by decide) (by decide) rfl rfl (fun rv gv Iv Rv hv => ?_)
        obtain ⟨rfl, rfl, rfl, rfl⟩ := hv
        refine q_aload_n hJ dX11_does_101 (q := 102) rfl rfl (by first | rfl | exact isR_rr _) ?_
        refine q_iload hJ dX11_does_102 (q := 104) rfl rfl ?_
        refine q_callV hJ dX11_does_104 (q := 107) rfl (M_valAt (e3 + 1) e v3 (by omega) tx n I R hFR hT hV3 he) imX11_numberAt ln_X11_192 (by first | exact ka317 | exact ka318 | exact ka319 | exact ka320 | exact ka321 | exact ka322) (by decide) rfl rfl rfl rfl (Nat.le_of_ble_eq_true rfl) (by decide) (by decide) rfl rfl (fun rv gv Iv Rv hv => ?_)
        obtain ⟨rfl, rfl, rfl, rfl⟩ := hv
        refine q_callV hJ dX11_does_107 (q := 110) rfl (M_runsInsert 413 (by decide) k v1 v2 v3 A I R hFR hM0 ok (wnI_0 hkr c8)) imX11_runsInsert ln_X11_138 (by first | exact ka317 | exact ka318 | exact ka319 | exact ka320 | exact ka321 | exact ka322) (by decide) rfl rfl rfl rfl (Nat.le_of_ble_eq_true rfl) (by decide) (by decide) rfl rfl (fun rv gv Iv Rv hv => ?_)
        obtain ⟨rfl, rfl, rfl, hk, hmS, hokS, e8, e9, e10, e11, e12⟩ := hv
        have hran := DsPo.ran (R := R) (hps.trans c8) hpx hk hmS hokS e11
        refine q_goto hJ (tgt := 189) dX11_does_110 (by decide) ?_
        refine q_iload hJ dX11_does_189 (q := 191) rfl rfl ?_
        refine q_if_ne hJ (tgt := 207) dX11_does_191 (q := 194) rfl (by decide) (fun c9 => ?_) (fun c9 => ?_)
        · refine q_iload hJ dX11_does_207 (q := 209) rfl rfl ?_
          refine q_iret hM dX11_does_209 rfl rfl ?_
          first
            | exact absurd c8 c9
            | exact absurd c9 c8
            | exact DsPo.err hps (wnI_no c8)
            | (rw [c8]; exact hran.1 c10)
            | exact hran.2 c10
            | fail
        · refine q_aload_n hJ dX11_does_194 (q := 195) rfl rfl (by first | rfl | exact isR_rr _) ?_
          refine q_getI hJ dX11_does_195 (q := 198) rfl fl_X11_48 rfl (by first | exact ka317 | exact ka318 | exact ka319 | exact ka320 | exact ka321 | exact ka322) rfl ?_
          refine q_if_le hJ (tgt := 207) dX11_does_198 (q := 201) rfl (by decide) (fun c10 => ?_) (fun c10 => ?_)
          · refine q_iload hJ dX11_does_207 (q := 209) rfl rfl ?_
            refine q_iret hM dX11_does_209 rfl rfl ?_
            first
              | exact absurd c8 c9
              | exact absurd c9 c8
              | exact DsPo.err hps (wnI_no c8)
              | (rw [c8]; exact hran.1 c10)
              | exact hran.2 c10
              | fail
          · refine q_sipush hJ (v := (-1005)) dX11_does_201 (q := 204) rfl (by decide) ?_
            refine q_goto hJ (tgt := 209) dX11_does_204 (by decide) ?_
            refine q_iret hM dX11_does_209 rfl rfl ?_
            first
              | exact absurd c8 c9
              | exact absurd c9 c8
              | exact DsPo.err hps (wnI_no c8)
              | (rw [c8]; exact hran.1 c10)
              | exact hran.2 c10
              | fail
    · refine q_sipush hJ (v := (-1001)) dX11_does_28 (q := 31) rfl (by decide) ?_
      refine q_goto hJ (tgt := 35) dX11_does_31 (by decide) ?_
      refine q_istore hJ dX11_does_35 (q := 37) rfl (by decide) ?_
      refine q_aload_n hJ dX11_does_37 (q := 38) rfl rfl (by first | rfl | exact isR_rr _) ?_
      refine q_iload_n hJ dX11_does_38 (q := 39) rfl rfl ?_
      refine q_callV hJ dX11_does_39 (q := 42) rfl (M_sign p (by omega) tx n I R hFR hT) imX11_sign ln_X11_164 (by first | exact ka317 | exact ka318 | exact ka319 | exact ka320 | exact ka321 | exact ka322) (by decide) rfl rfl rfl rfl (Nat.le_of_ble_eq_true rfl) (by decide) (by decide) rfl rfl (fun rv gv Iv Rv hv => ?_)
      obtain ⟨rfl, rfl, rfl, rfl⟩ := hv
      refine q_bipush hJ (v := 105) dX11_does_42 (q := 44) rfl (by decide) ?_
      refine q_icmp_ne hJ (tgt := 113) dX11_does_44 (q := 47) rfl (by decide) (fun cz => absurd h105 cz) (fun _ => ?_)
      refine q_aload_n hJ dX11_does_47 (q := 48) rfl rfl (by first | rfl | exact isR_rr _) ?_
      refine q_iload_n hJ dX11_does_48 (q := 49) rfl rfl ?_
      refine q_iconst hJ (v := 1) dX11_does_49 (q := 50) rfl (by decide) ?_
      refine q_iadd hJ dX11_does_50 (q := 51) rfl ?_
      rw [nI_1 e1]
      refine q_callV hJ dX11_does_51 (q := 54) rfl (M_valueEnd (e1 + 1) (by omega) tx n I R hFR hT) imX11_valueEnd ln_X11_177 (by first | exact ka317 | exact ka318 | exact ka319 | exact ka320 | exact ka321 | exact ka322) (by decide) rfl rfl rfl rfl (Nat.le_of_ble_eq_true rfl) (by decide) (by decide) rfl rfl (fun rv gv Iv Rv hv => ?_)
      obtain ⟨rfl, rfl, rfl, rfl⟩ := hv
      rw [show enc (valF2 tx n (e1 + 1, false)).2 = nI e2 from congrArg (fun z : Int32 × PS => enc z.2) hV1]
      refine q_iconst hJ (v := 1) dX11_does_54 (q := 55) rfl (by decide) ?_
      refine q_iadd hJ dX11_does_55 (q := 56) rfl ?_
      rw [nI_1 e2]
      refine q_istore hJ dX11_does_56 (q := 58) rfl (by decide) ?_
      refine q_aload_n hJ dX11_does_58 (q := 59) rfl rfl (by first | rfl | exact isR_rr _) ?_
      refine q_iload hJ dX11_does_59 (q := 61) rfl rfl ?_
      refine q_callV hJ dX11_does_61 (q := 64) rfl (M_valueEnd (e2 + 1) (by omega) tx n I R hFR hT) imX11_valueEnd ln_X11_177 (by first | exact ka317 | exact ka318 | exact ka319 | exact ka320 | exact ka321 | exact ka322) (by decide) rfl rfl rfl rfl (Nat.le_of_ble_eq_true rfl) (by decide) (by decide) rfl rfl (fun rv gv Iv Rv hv => ?_)
      obtain ⟨rfl, rfl, rfl, rfl⟩ := hv
      rw [show enc (valF2 tx n (e2 + 1, false)).2 = nI e3 from congrArg (fun z : Int32 × PS => enc z.2) hV2]
      refine q_iconst hJ (v := 1) dX11_does_64 (q := 65) rfl (by decide) ?_
      refine q_iadd hJ dX11_does_65 (q := 66) rfl ?_
      rw [nI_1 e3]
      refine q_istore hJ dX11_does_66 (q := 68) rfl (by decide) ?_
      refine q_aload_n hJ dX11_does_68 (q := 69) rfl rfl (by first | rfl | exact isR_rr _) ?_
      refine q_sipush hJ (v := 413) dX11_does_69 (q := 72) rfl (by decide) ?_
      refine q_iload_n hJ dX11_does_72 (q := 73) rfl rfl ?_
      refine q_callV hJ dX11_does_73 (q := 76) rfl (M_whyNotInsert 413 (by decide) k A I R hFR hM0.1 ok.1) imX11_whyNotInsert ln_X11_129 (by first | exact ka317 | exact ka318 | exact ka319 | exact ka320 | exact ka321 | exact ka322) (by decide) rfl rfl rfl rfl (Nat.le_of_ble_eq_true rfl) (by decide) (by decide) rfl rfl (fun rv gv Iv Rv hv => ?_)
      obtain ⟨rfl, rfl, rfl, rfl⟩ := hv
      refine q_istore hJ dX11_does_76 (q := 78) rfl (by decide) ?_
      refine q_iload hJ dX11_does_78 (q := 80) rfl rfl ?_
      refine q_if_ne hJ (tgt := 110) dX11_does_80 (q := 83) rfl (by decide) (fun c8 => ?_) (fun c8 => ?_)
      · refine q_goto hJ (tgt := 189) dX11_does_110 (by decide) ?_
        refine q_iload hJ dX11_does_189 (q := 191) rfl rfl ?_
        refine q_if_ne hJ (tgt := 207) dX11_does_191 (q := 194) rfl (by decide) (fun c9 => ?_) (fun c9 => ?_)
        · refine q_iload hJ dX11_does_207 (q := 209) rfl rfl ?_
          refine q_iret hM dX11_does_209 rfl rfl ?_
          first
            | exact absurd c8 c9
            | exact absurd c9 c8
            | exact DsPo.err hps (wnI_no c8)
            | (rw [c8]; exact hran.1 c10)
            | exact hran.2 c10
            | fail
        · refine q_aload_n hJ dX11_does_194 (q := 195) rfl rfl (by first | rfl | exact isR_rr _) ?_
          refine q_getI hJ dX11_does_195 (q := 198) rfl fl_X11_48 rfl (by first | exact ka317 | exact ka318 | exact ka319 | exact ka320 | exact ka321 | exact ka322) rfl ?_
          refine q_if_le hJ (tgt := 207) dX11_does_198 (q := 201) rfl (by decide) (fun c10 => ?_) (fun c10 => ?_)
          · refine q_iload hJ dX11_does_207 (q := 209) rfl rfl ?_
            refine q_iret hM dX11_does_209 rfl rfl ?_
            first
              | exact absurd c8 c9
              | exact absurd c9 c8
              | exact DsPo.err hps (wnI_no c8)
              | (rw [c8]; exact hran.1 c10)
              | exact hran.2 c10
              | fail
          · refine q_sipush hJ (v := (-1005)) dX11_does_201 (q := 204) rfl (by decide) ?_
            refine q_goto hJ (tgt := 209) dX11_does_204 (by decide) ?_
            refine q_iret hM dX11_does_209 rfl rfl ?_
            first
              | exact absurd c8 c9
              | exact absurd c9 c8
              | exact DsPo.err hps (wnI_no c8)
              | (rw [c8]; exact hran.1 c10)
              | exact hran.2 c10
              | fail
      · refine q_aload_n hJ dX11_does_83 (q := 84) rfl rfl (by first | rfl | exact isR_rr _) ?_
        refine q_sipush hJ (v := 413) dX11_does_84 (q := 87) rfl (by decide) ?_
        refine q_iload_n hJ dX11_does_87 (q := 88) rfl rfl ?_
        refine q_aload_n hJ dX11_does_88 (q := 89) rfl rfl (by first | rfl | exact isR_rr _) ?_
        refine q_iload_n hJ dX11_does_89 (q := 90) rfl rfl ?_
        refine q_iconst hJ (v := 1) dX11_does_90 (q := 91) rfl (by decide) ?_
        refine q_iadd hJ dX11_does_91 (q := 92) rfl ?_
        rw [nI_1 e1]
        refine q_callV hJ dX11_does_92 (q := 95) rfl (M_valAt (e1 + 1) e2 v1 (by omega) tx n I R hFR hT hV1 hs2) imX11_numberAt ln_X11_192 (by first | exact ka317 | exact ka318 | exact ka319 | exact ka320 | exact ka321 | exact ka322) (by decide) rfl rfl rfl rfl (Nat.le_of_ble_eq_true rfl) (by decide) (by decide) rfl rfl (fun rv gv Iv Rv hv => ?_)
        obtain ⟨rfl, rfl, rfl, rfl⟩ := hv
        refine q_aload_n hJ dX11_does_95 (q := 96) rfl rfl (by first | rfl | exact isR_rr _) ?_
        refine q_iload hJ dX11_does_96 (q := 98) rfl rfl ?_
        refine q_callV hJ dX11_does_98 (q := 101) rfl (M_valAt (e2 + 1) e3 v2 (by omega) tx n I R hFR hT hV2 hs3) imX11_numberAt ln_X11_192 (by first | exact ka317 | exact ka318 | exact ka319 | exact ka320 | exact ka321 | exact ka322) (by decide) rfl rfl rfl rfl (Nat.le_of_ble_eq_true rfl) (by decide) (by decide) rfl rfl (fun rv gv Iv Rv hv => ?_)
        obtain ⟨rfl, rfl, rfl, rfl⟩ := hv
        refine q_aload_n hJ dX11_does_101 (q := 102) rfl rfl (by first | rfl | exact isR_rr _) ?_
        refine q_iload hJ dX11_does_102 (q := 104) rfl rfl ?_
        refine q_callV hJ dX11_does_104 (q := 107) rfl (M_valAt (e3 + 1) e v3 (by omega) tx n I R hFR hT hV3 he) imX11_numberAt ln_X11_192 (by first | exact ka317 | exact ka318 | exact ka319 | exact ka320 | exact ka321 | exact ka322) (by decide) rfl rfl rfl rfl (Nat.le_of_ble_eq_true rfl) (by decide) (by decide) rfl rfl (fun rv gv Iv Rv hv => ?_)
        obtain ⟨rfl, rfl, rfl, rfl⟩ := hv
        refine q_callV hJ dX11_does_107 (q := 110) rfl (M_runsInsert 413 (by decide) k v1 v2 v3 A I R hFR hM0 ok (wnI_0 hkr c8)) imX11_runsInsert ln_X11_138 (by first | exact ka317 | exact ka318 | exact ka319 | exact ka320 | exact ka321 | exact ka322) (by decide) rfl rfl rfl rfl (Nat.le_of_ble_eq_true rfl) (by decide) (by decide) rfl rfl (fun rv gv Iv Rv hv => ?_)
        obtain ⟨rfl, rfl, rfl, hk, hmS, hokS, e8, e9, e10, e11, e12⟩ := hv
        have hran := DsPo.ran (R := R) (hps.trans c8) hpx hk hmS hokS e11
        refine q_goto hJ (tgt := 189) dX11_does_110 (by decide) ?_
        refine q_iload hJ dX11_does_189 (q := 191) rfl rfl ?_
        refine q_if_ne hJ (tgt := 207) dX11_does_191 (q := 194) rfl (by decide) (fun c9 => ?_) (fun c9 => ?_)
        · refine q_iload hJ dX11_does_207 (q := 209) rfl rfl ?_
          refine q_iret hM dX11_does_209 rfl rfl ?_
          first
            | exact absurd c8 c9
            | exact absurd c9 c8
            | exact DsPo.err hps (wnI_no c8)
            | (rw [c8]; exact hran.1 c10)
            | exact hran.2 c10
            | fail
        · refine q_aload_n hJ dX11_does_194 (q := 195) rfl rfl (by first | rfl | exact isR_rr _) ?_
          refine q_getI hJ dX11_does_195 (q := 198) rfl fl_X11_48 rfl (by first | exact ka317 | exact ka318 | exact ka319 | exact ka320 | exact ka321 | exact ka322) rfl ?_
          refine q_if_le hJ (tgt := 207) dX11_does_198 (q := 201) rfl (by decide) (fun c10 => ?_) (fun c10 => ?_)
          · refine q_iload hJ dX11_does_207 (q := 209) rfl rfl ?_
            refine q_iret hM dX11_does_209 rfl rfl ?_
            first
              | exact absurd c8 c9
              | exact absurd c9 c8
              | exact DsPo.err hps (wnI_no c8)
              | (rw [c8]; exact hran.1 c10)
              | exact hran.2 c10
              | fail
          · refine q_sipush hJ (v := (-1005)) dX11_does_201 (q := 204) rfl (by decide) ?_
            refine q_goto hJ (tgt := 209) dX11_does_204 (by decide) ?_
            refine q_iret hM dX11_does_209 rfl rfl ?_
            first
              | exact absurd c8 c9
              | exact absurd c9 c8
              | exact DsPo.err hps (wnI_no c8)
              | (rw [c8]; exact hran.1 c10)
              | exact hran.2 c10
              | fail
  by_cases h117 : sgn tx n p = 117
  · have hb := bod_u F h117
    obtain ⟨f4, f5, f6, f7⟩ := upd_F F h117
    rw [hx] at hb
    rcases hN0 : numF2 tx n 2 (p + 1, false) with ⟨k, P1⟩
    rw [hN0] at hb f5 f6 f7
    have hb0 : (e, false) = (valF2 tx n (passF tx n 61 (digF tx n 2 (passF tx n 46 P1)).2)).2 := hb
    obtain ⟨g2, s2, t2'⟩ := val_ok (tx := tx) (n := n) (c := 61) (Q := (digF tx n 2 (passF tx n 46 P1)).2) (by rw [← hb0])
    have hpk : (passF tx n 46 P1).2 = false := by
      rcases hq : passF tx n 46 P1 with ⟨q, b⟩
      rcases b with _ | _
      · rfl
      · rw [hq, digF_stay] at g2; exact absurd (congrArg (fun z : PS => z.2) g2) (by simp)
    obtain ⟨g1, s1, t1'⟩ := pass_ok hpk
    obtain ⟨e1, he1⟩ : ∃ x, x = P1.1 := ⟨_, rfl⟩
    have gP : P1 = (e1, false) := by rw [he1, ← g1]
    rw [t1', ← he1] at g2 s2 t2' f6 f7 hb0
    obtain ⟨d1, d2⟩ := digF_ok (tx := tx) (n := n) (q := e1 + 1) (by rw [g2])
    obtain ⟨f, hf3, hfv, hd9⟩ := dg2_val d1
    rw [d2] at s2 t2' f6 f7 hb0
    have hN1 : numF2 tx n 2 (p + 1, false) = (k, (e1, false)) := by rw [hN0, gP]
    have s1' : sgn tx n e1 = 46 := by rw [gP] at s1; exact s1
    have hs1 : dgF (sgn tx n e1) 9 = 0 := by rw [s1']; decide
    have l1 : e1 < n := sgn_lt (tx := tx) (by rw [s1']; decide)
    rcases hV : valF2 tx n (e1 + 3, false) with ⟨v, P4⟩
    have t2'' : passF tx n 61 (e1 + 1 + 1, false) = (e1 + 3, false) := t2'
    have hb1 : (e, false) = (valF2 tx n (passF tx n 61 (e1 + 1 + 1, false))).2 := hb0
    rw [t2'', hV] at hb1
    have hP4 : P4 = (e, false) := hb1.symm
    rw [hP4] at hV
    have hdig : dig tx n (e1 + 1) = nI f := (if_neg hd9).trans hfv
    have hkr : ¬ inR k 0 99 = 0 := by have := num_key tx n (p + 1, false); rw [hN0] at this; exact this
    have w1 : ¬ inR v (-999) 999 = 0 := by have := val_in tx n (e1 + 3, false); rw [hV] at this; exact this
    have q6 : (bodS tx n (p, false) F).2 6 = nI f := by rw [f6]; exact hfv
    have q7 : (bodS tx n (p, false) F).2 7 = v := by
      rw [f7]
      show (valF2 tx n (passF tx n 61 (e1 + 1 + 1, false))).1 = v
      rw [t2'', hV]
    have hfr : ¬ inR (nI f) 0 2 = 0 := by rcases (show f = 0 ∨ f = 1 ∨ f = 2 by omega) with rfl | rfl | rfl <;> decide
    have hps : psF A (bodS tx n (p, false) F).2 = wnU A k f v := by
      unfold psF
      rw [if_neg (by rw [f4]; decide), if_pos f4, f5, q6, q7]
      rcases hf : fK A k with _ | i
      · exact (Value.int.inj (Option.some.inj (updF_none hf))).symm.trans (by unfold wnU; rw [hf])
      · exact (Value.int.inj (Option.some.inj (updF_wn hf hf3 hfr w1))).symm
    have hpx : psX A (bodS tx n (p, false) F).2 = XR 1 (updI A k (nI f) v) A := by
      unfold psX
      rw [if_neg (by rw [f4]; decide), if_pos f4, f5, q6, q7]
    refine q_aload_n hJ dX11_does_0 (q := 1) rfl rfl (by first | rfl | exact isR_rr _) ?_
    refine q_iload_n hJ dX11_does_1 (q := 2) rfl rfl ?_
    refine q_iconst hJ (v := 1) dX11_does_2 (q := 3) rfl (by decide) ?_
    refine q_iadd hJ dX11_does_3 (q := 4) rfl ?_
    rw [nI_1 p]
    refine q_callV hJ dX11_does_4 (q := 7) rfl (M_numAt (p + 1) 2 e1 k (by omega) (by decide) tx n I R hFR hT hN1 hs1) imX11_numberAt ln_X11_192 (by first | exact ka317 | exact ka318 | exact ka319 | exact ka320 | exact ka321 | exact ka322) (by decide) rfl rfl rfl rfl (Nat.le_of_ble_eq_true rfl) (by decide) (by decide) rfl rfl (fun rv gv Iv Rv hv => ?_)
    obtain ⟨rfl, rfl, rfl, rfl⟩ := hv
    refine q_istore_n hJ dX11_does_7 (q := 8) rfl (by decide) ?_
    refine q_aload_n hJ dX11_does_8 (q := 9) rfl rfl (by first | rfl | exact isR_rr _) ?_
    refine q_iload_n hJ dX11_does_9 (q := 10) rfl rfl ?_
    refine q_iconst hJ (v := 1) dX11_does_10 (q := 11) rfl (by decide) ?_
    refine q_iadd hJ dX11_does_11 (q := 12) rfl ?_
    refine q_iconst hJ (v := 2) dX11_does_12 (q := 13) rfl (by decide) ?_
    rw [nI_1 p]
    refine q_callV hJ dX11_does_13 (q := 16) rfl (M_numberEnd (p + 1) 2 (by omega) (by decide) tx n I R hFR hT) imX11_numberEnd ln_X11_171 (by first | exact ka317 | exact ka318 | exact ka319 | exact ka320 | exact ka321 | exact ka322) (by decide) rfl rfl rfl rfl (Nat.le_of_ble_eq_true rfl) (by decide) (by decide) rfl rfl (fun rv gv Iv Rv hv => ?_)
    obtain ⟨rfl, rfl, rfl, rfl⟩ := hv
    rw [show enc (numF2 tx n 2 (p + 1, false)).2 = nI e1 from congrArg (fun z : Int32 × PS => enc z.2) hN1]
    refine q_istore_n hJ dX11_does_16 (q := 17) rfl (by decide) ?_
    refine q_aload_n hJ dX11_does_17 (q := 18) rfl rfl (by first | rfl | exact isR_rr _) ?_
    refine q_sipush hJ (v := 413) dX11_does_18 (q := 21) rfl (by decide) ?_
    refine q_iload_n hJ dX11_does_21 (q := 22) rfl rfl ?_
    refine q_callV hJ dX11_does_22 (q := 25) rfl (M_rowOf I R 413 (aN A) k (by decide) hM0.1.1 hM0.1.2.1 hFR) imX11_rowOf ln_X11_54 (by first | exact ka317 | exact ka318 | exact ka319 | exact ka320 | exact ka321 | exact ka322) (by decide) rfl rfl rfl rfl (Nat.le_of_ble_eq_true rfl) (by decide) (by decide) rfl rfl (fun rv gv Iv Rv hv => ?_)
    obtain ⟨rfl, rfl, rfl, rfl⟩ := hv
    refine q_if_ge hJ (tgt := 34) dX11_does_25 (q := 28) rfl (by decide) (fun cr => ?_) (fun cr => ?_)
    · refine q_iconst hJ (v := 0) dX11_does_34 (q := 35) rfl (by decide) ?_
      refine q_istore hJ dX11_does_35 (q := 37) rfl (by decide) ?_
      refine q_aload_n hJ dX11_does_37 (q := 38) rfl rfl (by first | rfl | exact isR_rr _) ?_
      refine q_iload_n hJ dX11_does_38 (q := 39) rfl rfl ?_
      refine q_callV hJ dX11_does_39 (q := 42) rfl (M_sign p (by omega) tx n I R hFR hT) imX11_sign ln_X11_164 (by first | exact ka317 | exact ka318 | exact ka319 | exact ka320 | exact ka321 | exact ka322) (by decide) rfl rfl rfl rfl (Nat.le_of_ble_eq_true rfl) (by decide) (by decide) rfl rfl (fun rv gv Iv Rv hv => ?_)
      obtain ⟨rfl, rfl, rfl, rfl⟩ := hv
      refine q_bipush hJ (v := 105) dX11_does_42 (q := 44) rfl (by decide) ?_
      refine q_icmp_ne hJ (tgt := 113) dX11_does_44 (q := 47) rfl (by decide) (fun _ => ?_) (fun cz => absurd cz h105)
      refine q_aload_n hJ dX11_does_113 (q := 114) rfl rfl (by first | rfl | exact isR_rr _) ?_
      refine q_iload_n hJ dX11_does_114 (q := 115) rfl rfl ?_
      refine q_callV hJ dX11_does_115 (q := 118) rfl (M_sign p (by omega) tx n I R hFR hT) imX11_sign ln_X11_164 (by first | exact ka317 | exact ka318 | exact ka319 | exact ka320 | exact ka321 | exact ka322) (by decide) rfl rfl rfl rfl (Nat.le_of_ble_eq_true rfl) (by decide) (by decide) rfl rfl (fun rv gv Iv Rv hv => ?_)
      obtain ⟨rfl, rfl, rfl, rfl⟩ := hv
      refine q_bipush hJ (v := 117) dX11_does_118 (q := 120) rfl (by decide) ?_
      refine q_icmp_ne hJ (tgt := 176) dX11_does_120 (q := 123) rfl (by decide) (fun cy => absurd h117 cy) (fun _ => ?_)
      refine q_aload_n hJ dX11_does_123 (q := 124) rfl rfl (by first | rfl | exact isR_rr _) ?_
      refine q_iload_n hJ dX11_does_124 (q := 125) rfl rfl ?_
      refine q_iconst hJ (v := 3) dX11_does_125 (q := 126) rfl (by decide) ?_
      refine q_iadd hJ dX11_does_126 (q := 127) rfl ?_
      rw [show nI e1 + 3 = nI (e1 + 3) from nIl_add e1 3]
      refine q_callV hJ dX11_does_127 (q := 130) rfl (M_valAt (e1 + 3) e v (by omega) tx n I R hFR hT hV he) imX11_numberAt ln_X11_192 (by first | exact ka317 | exact ka318 | exact ka319 | exact ka320 | exact ka321 | exact ka322) (by decide) rfl rfl rfl rfl (Nat.le_of_ble_eq_true rfl) (by decide) (by decide) rfl rfl (fun rv gv Iv Rv hv => ?_)
      obtain ⟨rfl, rfl, rfl, rfl⟩ := hv
      refine q_istore hJ dX11_does_130 (q := 132) rfl (by decide) ?_
      refine q_aload_n hJ dX11_does_132 (q := 133) rfl rfl (by first | rfl | exact isR_rr _) ?_
      refine q_sipush hJ (v := 413) dX11_does_133 (q := 136) rfl (by decide) ?_
      refine q_iload_n hJ dX11_does_136 (q := 137) rfl rfl ?_
      refine q_aload_n hJ dX11_does_137 (q := 138) rfl rfl (by first | rfl | exact isR_rr _) ?_
      refine q_iload_n hJ dX11_does_138 (q := 139) rfl rfl ?_
      refine q_iconst hJ (v := 1) dX11_does_139 (q := 140) rfl (by decide) ?_
      refine q_iadd hJ dX11_does_140 (q := 141) rfl ?_
      rw [nI_1 e1]
      refine q_callV hJ dX11_does_141 (q := 144) rfl (M_digit (e1 + 1) (by omega) tx n I R hFR hT) imX11_digit ln_X11_168 (by first | exact ka317 | exact ka318 | exact ka319 | exact ka320 | exact ka321 | exact ka322) (by decide) rfl rfl rfl rfl (Nat.le_of_ble_eq_true rfl) (by decide) (by decide) rfl rfl (fun rv gv Iv Rv hv => ?_)
      obtain ⟨rfl, rfl, rfl, rfl⟩ := hv
      rw [hdig]
      refine q_iload hJ dX11_does_144 (q := 146) rfl rfl ?_
      refine q_callV hJ dX11_does_146 (q := 149) rfl (M_whyNotUpdate 413 f (by decide) hf3 k v A I R hFR hM0.1 ok.1) imX11_whyNotUpdate ln_X11_132 (by first | exact ka317 | exact ka318 | exact ka319 | exact ka320 | exact ka321 | exact ka322) (by decide) rfl rfl rfl rfl (Nat.le_of_ble_eq_true rfl) (by decide) (by decide) rfl rfl (fun rv gv Iv Rv hv => ?_)
      obtain ⟨rfl, rfl, rfl, rfl⟩ := hv
      refine q_istore hJ dX11_does_149 (q := 151) rfl (by decide) ?_
      refine q_iload hJ dX11_does_151 (q := 153) rfl rfl ?_
      refine q_if_ne hJ (tgt := 173) dX11_does_153 (q := 156) rfl (by decide) (fun c8 => ?_) (fun c8 => ?_)
      · refine q_goto hJ (tgt := 189) dX11_does_173 (by decide) ?_
        refine q_iload hJ dX11_does_189 (q := 191) rfl rfl ?_
        refine q_if_ne hJ (tgt := 207) dX11_does_191 (q := 194) rfl (by decide) (fun c9 => ?_) (fun c9 => ?_)
        · refine q_iload hJ dX11_does_207 (q := 209) rfl rfl ?_
          refine q_iret hM dX11_does_209 rfl rfl ?_
          first
            | exact absurd c8 c9
            | exact absurd c9 c8
            | (rcases Decidable.em (wnU A k f v = -1006) with z | z
               · rw [z]; exact DsPo.none (hps.trans z) hM0 ok
               · exact DsPo.err hps (Or.inl (wnU_no c8 z)))
            | (rw [c8]; exact hran.1 c10)
            | exact hran.2 c10
            | fail
        · refine q_aload_n hJ dX11_does_194 (q := 195) rfl rfl (by first | rfl | exact isR_rr _) ?_
          refine q_getI hJ dX11_does_195 (q := 198) rfl fl_X11_48 rfl (by first | exact ka317 | exact ka318 | exact ka319 | exact ka320 | exact ka321 | exact ka322) rfl ?_
          refine q_if_le hJ (tgt := 207) dX11_does_198 (q := 201) rfl (by decide) (fun c10 => ?_) (fun c10 => ?_)
          · refine q_iload hJ dX11_does_207 (q := 209) rfl rfl ?_
            refine q_iret hM dX11_does_209 rfl rfl ?_
            first
              | exact absurd c8 c9
              | exact absurd c9 c8
              | (rcases Decidable.em (wnU A k f v = -1006) with z | z
                 · rw [z]; exact DsPo.none (hps.trans z) hM0 ok
                 · exact DsPo.err hps (Or.inl (wnU_no c8 z)))
              | (rw [c8]; exact hran.1 c10)
              | exact hran.2 c10
              | fail
          · refine q_sipush hJ (v := (-1005)) dX11_does_201 (q := 204) rfl (by decide) ?_
            refine q_goto hJ (tgt := 209) dX11_does_204 (by decide) ?_
            refine q_iret hM dX11_does_209 rfl rfl ?_
            first
              | exact absurd c8 c9
              | exact absurd c9 c8
              | (rcases Decidable.em (wnU A k f v = -1006) with z | z
                 · rw [z]; exact DsPo.none (hps.trans z) hM0 ok
                 · exact DsPo.err hps (Or.inl (wnU_no c8 z)))
              | (rw [c8]; exact hran.1 c10)
              | exact hran.2 c10
              | fail
      · refine q_aload_n hJ dX11_does_156 (q := 157) rfl rfl (by first | rfl | exact isR_rr _) ?_
        refine q_sipush hJ (v := 413) dX11_does_157 (q := 160) rfl (by decide) ?_
        refine q_iload_n hJ dX11_does_160 (q := 161) rfl rfl ?_
        refine q_aload_n hJ dX11_does_161 (q := 162) rfl rfl (by first | rfl | exact isR_rr _) ?_
        refine q_iload_n hJ dX11_does_162 (q := 163) rfl rfl ?_
        refine q_iconst hJ (v := 1) dX11_does_163 (q := 164) rfl (by decide) ?_
        refine q_iadd hJ dX11_does_164 (q := 165) rfl ?_
        rw [nI_1 e1]
        refine q_callV hJ dX11_does_165 (q := 168) rfl (M_digit (e1 + 1) (by omega) tx n I R hFR hT) imX11_digit ln_X11_168 (by first | exact ka317 | exact ka318 | exact ka319 | exact ka320 | exact ka321 | exact ka322) (by decide) rfl rfl rfl rfl (Nat.le_of_ble_eq_true rfl) (by decide) (by decide) rfl rfl (fun rv gv Iv Rv hv => ?_)
        obtain ⟨rfl, rfl, rfl, rfl⟩ := hv
        rw [hdig]
        refine q_iload hJ dX11_does_168 (q := 170) rfl rfl ?_
        refine q_callV hJ dX11_does_170 (q := 173) rfl (M_runsUpdate 413 f hf3 (by decide) k v (updI A k (nI f) v) A I R hFR hM0 ok (wnU_0 hf3 c8)) imX11_runsUpdate ln_X11_149 (by first | exact ka317 | exact ka318 | exact ka319 | exact ka320 | exact ka321 | exact ka322) (by decide) rfl rfl rfl rfl (Nat.le_of_ble_eq_true rfl) (by decide) (by decide) rfl rfl (fun rv gv Iv Rv hv => ?_)
        obtain ⟨rfl, rfl, rfl, hk, hmS, hokS, e8, e9, e10, e11, e12⟩ := hv
        have hran := DsPo.ran (R := R) (hps.trans c8) hpx hk hmS hokS e11
        refine q_goto hJ (tgt := 189) dX11_does_173 (by decide) ?_
        refine q_iload hJ dX11_does_189 (q := 191) rfl rfl ?_
        refine q_if_ne hJ (tgt := 207) dX11_does_191 (q := 194) rfl (by decide) (fun c9 => ?_) (fun c9 => ?_)
        · refine q_iload hJ dX11_does_207 (q := 209) rfl rfl ?_
          refine q_iret hM dX11_does_209 rfl rfl ?_
          first
            | exact absurd c8 c9
            | exact absurd c9 c8
            | (rcases Decidable.em (wnU A k f v = -1006) with z | z
               · rw [z]; exact DsPo.none (hps.trans z) hM0 ok
               · exact DsPo.err hps (Or.inl (wnU_no c8 z)))
            | (rw [c8]; exact hran.1 c10)
            | exact hran.2 c10
            | fail
        · refine q_aload_n hJ dX11_does_194 (q := 195) rfl rfl (by first | rfl | exact isR_rr _) ?_
          refine q_getI hJ dX11_does_195 (q := 198) rfl fl_X11_48 rfl (by first | exact ka317 | exact ka318 | exact ka319 | exact ka320 | exact ka321 | exact ka322) rfl ?_
          refine q_if_le hJ (tgt := 207) dX11_does_198 (q := 201) rfl (by decide) (fun c10 => ?_) (fun c10 => ?_)
          · refine q_iload hJ dX11_does_207 (q := 209) rfl rfl ?_
            refine q_iret hM dX11_does_209 rfl rfl ?_
            first
              | exact absurd c8 c9
              | exact absurd c9 c8
              | (rcases Decidable.em (wnU A k f v = -1006) with z | z
                 · rw [z]; exact DsPo.none (hps.trans z) hM0 ok
                 · exact DsPo.err hps (Or.inl (wnU_no c8 z)))
              | (rw [c8]; exact hran.1 c10)
              | exact hran.2 c10
              | fail
          · refine q_sipush hJ (v := (-1005)) dX11_does_201 (q := 204) rfl (by decide) ?_
            refine q_goto hJ (tgt := 209) dX11_does_204 (by decide) ?_
            refine q_iret hM dX11_does_209 rfl rfl ?_
            first
              | exact absurd c8 c9
              | exact absurd c9 c8
              | (rcases Decidable.em (wnU A k f v = -1006) with z | z
                 · rw [z]; exact DsPo.none (hps.trans z) hM0 ok
                 · exact DsPo.err hps (Or.inl (wnU_no c8 z)))
              | (rw [c8]; exact hran.1 c10)
              | exact hran.2 c10
              | fail
    · refine q_sipush hJ (v := (-1001)) dX11_does_28 (q := 31) rfl (by decide) ?_
      refine q_goto hJ (tgt := 35) dX11_does_31 (by decide) ?_
      refine q_istore hJ dX11_does_35 (q := 37) rfl (by decide) ?_
      refine q_aload_n hJ dX11_does_37 (q := 38) rfl rfl (by first | rfl | exact isR_rr _) ?_
      refine q_iload_n hJ dX11_does_38 (q := 39) rfl rfl ?_
      refine q_callV hJ dX11_does_39 (q := 42) rfl (M_sign p (by omega) tx n I R hFR hT) imX11_sign ln_X11_164 (by first | exact ka317 | exact ka318 | exact ka319 | exact ka320 | exact ka321 | exact ka322) (by decide) rfl rfl rfl rfl (Nat.le_of_ble_eq_true rfl) (by decide) (by decide) rfl rfl (fun rv gv Iv Rv hv => ?_)
      obtain ⟨rfl, rfl, rfl, rfl⟩ := hv
      refine q_bipush hJ (v := 105) dX11_does_42 (q := 44) rfl (by decide) ?_
      refine q_icmp_ne hJ (tgt := 113) dX11_does_44 (q := 47) rfl (by decide) (fun _ => ?_) (fun cz => absurd cz h105)
      refine q_aload_n hJ dX11_does_113 (q := 114) rfl rfl (by first | rfl | exact isR_rr _) ?_
      refine q_iload_n hJ dX11_does_114 (q := 115) rfl rfl ?_
      refine q_callV hJ dX11_does_115 (q := 118) rfl (M_sign p (by omega) tx n I R hFR hT) imX11_sign ln_X11_164 (by first | exact ka317 | exact ka318 | exact ka319 | exact ka320 | exact ka321 | exact ka322) (by decide) rfl rfl rfl rfl (Nat.le_of_ble_eq_true rfl) (by decide) (by decide) rfl rfl (fun rv gv Iv Rv hv => ?_)
      obtain ⟨rfl, rfl, rfl, rfl⟩ := hv
      refine q_bipush hJ (v := 117) dX11_does_118 (q := 120) rfl (by decide) ?_
      refine q_icmp_ne hJ (tgt := 176) dX11_does_120 (q := 123) rfl (by decide) (fun cy => absurd h117 cy) (fun _ => ?_)
      refine q_aload_n hJ dX11_does_123 (q := 124) rfl rfl (by first | rfl | exact isR_rr _) ?_
      refine q_iload_n hJ dX11_does_124 (q := 125) rfl rfl ?_
      refine q_iconst hJ (v := 3) dX11_does_125 (q := 126) rfl (by decide) ?_
      refine q_iadd hJ dX11_does_126 (q := 127) rfl ?_
      rw [show nI e1 + 3 = nI (e1 + 3) from nIl_add e1 3]
      refine q_callV hJ dX11_does_127 (q := 130) rfl (M_valAt (e1 + 3) e v (by omega) tx n I R hFR hT hV he) imX11_numberAt ln_X11_192 (by first | exact ka317 | exact ka318 | exact ka319 | exact ka320 | exact ka321 | exact ka322) (by decide) rfl rfl rfl rfl (Nat.le_of_ble_eq_true rfl) (by decide) (by decide) rfl rfl (fun rv gv Iv Rv hv => ?_)
      obtain ⟨rfl, rfl, rfl, rfl⟩ := hv
      refine q_istore hJ dX11_does_130 (q := 132) rfl (by decide) ?_
      refine q_aload_n hJ dX11_does_132 (q := 133) rfl rfl (by first | rfl | exact isR_rr _) ?_
      refine q_sipush hJ (v := 413) dX11_does_133 (q := 136) rfl (by decide) ?_
      refine q_iload_n hJ dX11_does_136 (q := 137) rfl rfl ?_
      refine q_aload_n hJ dX11_does_137 (q := 138) rfl rfl (by first | rfl | exact isR_rr _) ?_
      refine q_iload_n hJ dX11_does_138 (q := 139) rfl rfl ?_
      refine q_iconst hJ (v := 1) dX11_does_139 (q := 140) rfl (by decide) ?_
      refine q_iadd hJ dX11_does_140 (q := 141) rfl ?_
      rw [nI_1 e1]
      refine q_callV hJ dX11_does_141 (q := 144) rfl (M_digit (e1 + 1) (by omega) tx n I R hFR hT) imX11_digit ln_X11_168 (by first | exact ka317 | exact ka318 | exact ka319 | exact ka320 | exact ka321 | exact ka322) (by decide) rfl rfl rfl rfl (Nat.le_of_ble_eq_true rfl) (by decide) (by decide) rfl rfl (fun rv gv Iv Rv hv => ?_)
      obtain ⟨rfl, rfl, rfl, rfl⟩ := hv
      rw [hdig]
      refine q_iload hJ dX11_does_144 (q := 146) rfl rfl ?_
      refine q_callV hJ dX11_does_146 (q := 149) rfl (M_whyNotUpdate 413 f (by decide) hf3 k v A I R hFR hM0.1 ok.1) imX11_whyNotUpdate ln_X11_132 (by first | exact ka317 | exact ka318 | exact ka319 | exact ka320 | exact ka321 | exact ka322) (by decide) rfl rfl rfl rfl (Nat.le_of_ble_eq_true rfl) (by decide) (by decide) rfl rfl (fun rv gv Iv Rv hv => ?_)
      obtain ⟨rfl, rfl, rfl, rfl⟩ := hv
      refine q_istore hJ dX11_does_149 (q := 151) rfl (by decide) ?_
      refine q_iload hJ dX11_does_151 (q := 153) rfl rfl ?_
      refine q_if_ne hJ (tgt := 173) dX11_does_153 (q := 156) rfl (by decide) (fun c8 => ?_) (fun c8 => ?_)
      · refine q_goto hJ (tgt := 189) dX11_does_173 (by decide) ?_
        refine q_iload hJ dX11_does_189 (q := 191) rfl rfl ?_
        refine q_if_ne hJ (tgt := 207) dX11_does_191 (q := 194) rfl (by decide) (fun c9 => ?_) (fun c9 => ?_)
        · refine q_iload hJ dX11_does_207 (q := 209) rfl rfl ?_
          refine q_iret hM dX11_does_209 rfl rfl ?_
          first
            | exact absurd c8 c9
            | exact absurd c9 c8
            | (rcases Decidable.em (wnU A k f v = -1006) with z | z
               · rw [z]; exact DsPo.none (hps.trans z) hM0 ok
               · exact DsPo.err hps (Or.inl (wnU_no c8 z)))
            | (rw [c8]; exact hran.1 c10)
            | exact hran.2 c10
            | fail
        · refine q_aload_n hJ dX11_does_194 (q := 195) rfl rfl (by first | rfl | exact isR_rr _) ?_
          refine q_getI hJ dX11_does_195 (q := 198) rfl fl_X11_48 rfl (by first | exact ka317 | exact ka318 | exact ka319 | exact ka320 | exact ka321 | exact ka322) rfl ?_
          refine q_if_le hJ (tgt := 207) dX11_does_198 (q := 201) rfl (by decide) (fun c10 => ?_) (fun c10 => ?_)
          · refine q_iload hJ dX11_does_207 (q := 209) rfl rfl ?_
            refine q_iret hM dX11_does_209 rfl rfl ?_
            first
              | exact absurd c8 c9
              | exact absurd c9 c8
              | (rcases Decidable.em (wnU A k f v = -1006) with z | z
                 · rw [z]; exact DsPo.none (hps.trans z) hM0 ok
                 · exact DsPo.err hps (Or.inl (wnU_no c8 z)))
              | (rw [c8]; exact hran.1 c10)
              | exact hran.2 c10
              | fail
          · refine q_sipush hJ (v := (-1005)) dX11_does_201 (q := 204) rfl (by decide) ?_
            refine q_goto hJ (tgt := 209) dX11_does_204 (by decide) ?_
            refine q_iret hM dX11_does_209 rfl rfl ?_
            first
              | exact absurd c8 c9
              | exact absurd c9 c8
              | (rcases Decidable.em (wnU A k f v = -1006) with z | z
                 · rw [z]; exact DsPo.none (hps.trans z) hM0 ok
                 · exact DsPo.err hps (Or.inl (wnU_no c8 z)))
              | (rw [c8]; exact hran.1 c10)
              | exact hran.2 c10
              | fail
      · refine q_aload_n hJ dX11_does_156 (q := 157) rfl rfl (by first | rfl | exact isR_rr _) ?_
        refine q_sipush hJ (v := 413) dX11_does_157 (q := 160) rfl (by decide) ?_
        refine q_iload_n hJ dX11_does_160 (q := 161) rfl rfl ?_
        refine q_aload_n hJ dX11_does_161 (q := 162) rfl rfl (by first | rfl | exact isR_rr _) ?_
        refine q_iload_n hJ dX11_does_162 (q := 163) rfl rfl ?_
        refine q_iconst hJ (v := 1) dX11_does_163 (q := 164) rfl (by decide) ?_
        refine q_iadd hJ dX11_does_164 (q := 165) rfl ?_
        rw [nI_1 e1]
        refine q_callV hJ dX11_does_165 (q := 168) rfl (M_digit (e1 + 1) (by omega) tx n I R hFR hT) imX11_digit ln_X11_168 (by first | exact ka317 | exact ka318 | exact ka319 | exact ka320 | exact ka321 | exact ka322) (by decide) rfl rfl rfl rfl (Nat.le_of_ble_eq_true rfl) (by decide) (by decide) rfl rfl (fun rv gv Iv Rv hv => ?_)
        obtain ⟨rfl, rfl, rfl, rfl⟩ := hv
        rw [hdig]
        refine q_iload hJ dX11_does_168 (q := 170) rfl rfl ?_
        refine q_callV hJ dX11_does_170 (q := 173) rfl (M_runsUpdate 413 f hf3 (by decide) k v (updI A k (nI f) v) A I R hFR hM0 ok (wnU_0 hf3 c8)) imX11_runsUpdate ln_X11_149 (by first | exact ka317 | exact ka318 | exact ka319 | exact ka320 | exact ka321 | exact ka322) (by decide) rfl rfl rfl rfl (Nat.le_of_ble_eq_true rfl) (by decide) (by decide) rfl rfl (fun rv gv Iv Rv hv => ?_)
        obtain ⟨rfl, rfl, rfl, hk, hmS, hokS, e8, e9, e10, e11, e12⟩ := hv
        have hran := DsPo.ran (R := R) (hps.trans c8) hpx hk hmS hokS e11
        refine q_goto hJ (tgt := 189) dX11_does_173 (by decide) ?_
        refine q_iload hJ dX11_does_189 (q := 191) rfl rfl ?_
        refine q_if_ne hJ (tgt := 207) dX11_does_191 (q := 194) rfl (by decide) (fun c9 => ?_) (fun c9 => ?_)
        · refine q_iload hJ dX11_does_207 (q := 209) rfl rfl ?_
          refine q_iret hM dX11_does_209 rfl rfl ?_
          first
            | exact absurd c8 c9
            | exact absurd c9 c8
            | (rcases Decidable.em (wnU A k f v = -1006) with z | z
               · rw [z]; exact DsPo.none (hps.trans z) hM0 ok
               · exact DsPo.err hps (Or.inl (wnU_no c8 z)))
            | (rw [c8]; exact hran.1 c10)
            | exact hran.2 c10
            | fail
        · refine q_aload_n hJ dX11_does_194 (q := 195) rfl rfl (by first | rfl | exact isR_rr _) ?_
          refine q_getI hJ dX11_does_195 (q := 198) rfl fl_X11_48 rfl (by first | exact ka317 | exact ka318 | exact ka319 | exact ka320 | exact ka321 | exact ka322) rfl ?_
          refine q_if_le hJ (tgt := 207) dX11_does_198 (q := 201) rfl (by decide) (fun c10 => ?_) (fun c10 => ?_)
          · refine q_iload hJ dX11_does_207 (q := 209) rfl rfl ?_
            refine q_iret hM dX11_does_209 rfl rfl ?_
            first
              | exact absurd c8 c9
              | exact absurd c9 c8
              | (rcases Decidable.em (wnU A k f v = -1006) with z | z
                 · rw [z]; exact DsPo.none (hps.trans z) hM0 ok
                 · exact DsPo.err hps (Or.inl (wnU_no c8 z)))
              | (rw [c8]; exact hran.1 c10)
              | exact hran.2 c10
              | fail
          · refine q_sipush hJ (v := (-1005)) dX11_does_201 (q := 204) rfl (by decide) ?_
            refine q_goto hJ (tgt := 209) dX11_does_204 (by decide) ?_
            refine q_iret hM dX11_does_209 rfl rfl ?_
            first
              | exact absurd c8 c9
              | exact absurd c9 c8
              | (rcases Decidable.em (wnU A k f v = -1006) with z | z
                 · rw [z]; exact DsPo.none (hps.trans z) hM0 ok
                 · exact DsPo.err hps (Or.inl (wnU_no c8 z)))
              | (rw [c8]; exact hran.1 c10)
              | exact hran.2 c10
              | fail
  by_cases h100 : sgn tx n p = 100
  · have hb := bod_d F h100
    obtain ⟨f4, f5⟩ := del_F F h100
    rw [hx] at hb
    rcases hN0 : numF2 tx n 2 (p + 1, false) with ⟨k, P1⟩
    rw [hN0] at hb f5
    have hP1 : P1 = (e, false) := hb.symm
    obtain ⟨e1, he1⟩ : ∃ x, x = e := ⟨_, rfl⟩
    have hN1 : numF2 tx n 2 (p + 1, false) = (k, (e1, false)) := by rw [hN0, hP1, he1]
    have hs1 : dgF (sgn tx n e1) 9 = 0 := by rw [he1]; exact he
    have hps : psF A (bodS tx n (p, false) F).2 = dltF A k := by
      unfold psF
      rw [if_neg (by rw [f4]; decide), if_neg (by rw [f4]; decide), f5]
    have hpx : psX A (bodS tx n (p, false) F).2 = XR 2 (dltI A k) A := by
      unfold psX
      rw [if_neg (by rw [f4]; decide), if_neg (by rw [f4]; decide), f5]
    have h105 : ¬ sgn tx n p = 105 := by rw [h100]; decide
    have h117 : ¬ sgn tx n p = 117 := by rw [h100]; decide
    rcases hf : fK A k with _ | i
    · refine q_aload_n hJ dX11_does_0 (q := 1) rfl rfl (by first | rfl | exact isR_rr _) ?_
      refine q_iload_n hJ dX11_does_1 (q := 2) rfl rfl ?_
      refine q_iconst hJ (v := 1) dX11_does_2 (q := 3) rfl (by decide) ?_
      refine q_iadd hJ dX11_does_3 (q := 4) rfl ?_
      rw [nI_1 p]
      refine q_callV hJ dX11_does_4 (q := 7) rfl (M_numAt (p + 1) 2 e1 k (by omega) (by decide) tx n I R hFR hT hN1 hs1) imX11_numberAt ln_X11_192 (by first | exact ka317 | exact ka318 | exact ka319 | exact ka320 | exact ka321 | exact ka322) (by decide) rfl rfl rfl rfl (Nat.le_of_ble_eq_true rfl) (by decide) (by decide) rfl rfl (fun rv gv Iv Rv hv => ?_)
      obtain ⟨rfl, rfl, rfl, rfl⟩ := hv
      refine q_istore_n hJ dX11_does_7 (q := 8) rfl (by decide) ?_
      refine q_aload_n hJ dX11_does_8 (q := 9) rfl rfl (by first | rfl | exact isR_rr _) ?_
      refine q_iload_n hJ dX11_does_9 (q := 10) rfl rfl ?_
      refine q_iconst hJ (v := 1) dX11_does_10 (q := 11) rfl (by decide) ?_
      refine q_iadd hJ dX11_does_11 (q := 12) rfl ?_
      refine q_iconst hJ (v := 2) dX11_does_12 (q := 13) rfl (by decide) ?_
      rw [nI_1 p]
      refine q_callV hJ dX11_does_13 (q := 16) rfl (M_numberEnd (p + 1) 2 (by omega) (by decide) tx n I R hFR hT) imX11_numberEnd ln_X11_171 (by first | exact ka317 | exact ka318 | exact ka319 | exact ka320 | exact ka321 | exact ka322) (by decide) rfl rfl rfl rfl (Nat.le_of_ble_eq_true rfl) (by decide) (by decide) rfl rfl (fun rv gv Iv Rv hv => ?_)
      obtain ⟨rfl, rfl, rfl, rfl⟩ := hv
      rw [show enc (numF2 tx n 2 (p + 1, false)).2 = nI e1 from congrArg (fun z : Int32 × PS => enc z.2) hN1]
      refine q_istore_n hJ dX11_does_16 (q := 17) rfl (by decide) ?_
      refine q_aload_n hJ dX11_does_17 (q := 18) rfl rfl (by first | rfl | exact isR_rr _) ?_
      refine q_sipush hJ (v := 413) dX11_does_18 (q := 21) rfl (by decide) ?_
      refine q_iload_n hJ dX11_does_21 (q := 22) rfl rfl ?_
      refine q_callV hJ dX11_does_22 (q := 25) rfl (M_rowOf I R 413 (aN A) k (by decide) hM0.1.1 hM0.1.2.1 hFR) imX11_rowOf ln_X11_54 (by first | exact ka317 | exact ka318 | exact ka319 | exact ka320 | exact ka321 | exact ka322) (by decide) rfl rfl rfl rfl (Nat.le_of_ble_eq_true rfl) (by decide) (by decide) rfl rfl (fun rv gv Iv Rv hv => ?_)
      obtain ⟨rfl, rfl, rfl, rfl⟩ := hv
      rw [hM0.1.none hf, show rwI 413 none = -1 from rfl]
      refine q_if_ge hJ (tgt := 34) dX11_does_25 (q := 28) rfl (by decide) (fun cr => absurd cr (by decide)) (fun _ => ?_)
      refine q_sipush hJ (v := (-1001)) dX11_does_28 (q := 31) rfl (by decide) ?_
      refine q_goto hJ (tgt := 35) dX11_does_31 (by decide) ?_
      refine q_istore hJ dX11_does_35 (q := 37) rfl (by decide) ?_
      refine q_aload_n hJ dX11_does_37 (q := 38) rfl rfl (by first | rfl | exact isR_rr _) ?_
      refine q_iload_n hJ dX11_does_38 (q := 39) rfl rfl ?_
      refine q_callV hJ dX11_does_39 (q := 42) rfl (M_sign p (by omega) tx n I R hFR hT) imX11_sign ln_X11_164 (by first | exact ka317 | exact ka318 | exact ka319 | exact ka320 | exact ka321 | exact ka322) (by decide) rfl rfl rfl rfl (Nat.le_of_ble_eq_true rfl) (by decide) (by decide) rfl rfl (fun rv gv Iv Rv hv => ?_)
      obtain ⟨rfl, rfl, rfl, rfl⟩ := hv
      refine q_bipush hJ (v := 105) dX11_does_42 (q := 44) rfl (by decide) ?_
      refine q_icmp_ne hJ (tgt := 113) dX11_does_44 (q := 47) rfl (by decide) (fun _ => ?_) (fun cz => absurd cz h105)
      refine q_aload_n hJ dX11_does_113 (q := 114) rfl rfl (by first | rfl | exact isR_rr _) ?_
      refine q_iload_n hJ dX11_does_114 (q := 115) rfl rfl ?_
      refine q_callV hJ dX11_does_115 (q := 118) rfl (M_sign p (by omega) tx n I R hFR hT) imX11_sign ln_X11_164 (by first | exact ka317 | exact ka318 | exact ka319 | exact ka320 | exact ka321 | exact ka322) (by decide) rfl rfl rfl rfl (Nat.le_of_ble_eq_true rfl) (by decide) (by decide) rfl rfl (fun rv gv Iv Rv hv => ?_)
      obtain ⟨rfl, rfl, rfl, rfl⟩ := hv
      refine q_bipush hJ (v := 117) dX11_does_118 (q := 120) rfl (by decide) ?_
      refine q_icmp_ne hJ (tgt := 176) dX11_does_120 (q := 123) rfl (by decide) (fun _ => ?_) (fun cy => absurd cy h117)
      refine q_iload hJ dX11_does_176 (q := 178) rfl rfl ?_
      refine q_if_ne hJ (tgt := 189) dX11_does_178 (q := 181) rfl (by decide) (fun _ => ?_) (fun c8 => absurd c8 (by decide))
      refine q_iload hJ dX11_does_189 (q := 191) rfl rfl ?_
      refine q_if_ne hJ (tgt := 207) dX11_does_191 (q := 194) rfl (by decide) (fun _ => ?_) (fun c9 => absurd c9 (by decide))
      refine q_iload hJ dX11_does_207 (q := 209) rfl rfl ?_
      refine q_iret hM dX11_does_209 rfl rfl ?_
      exact DsPo.err (hps.trans (dltF_n hf)) (Or.inl rfl)
    · obtain ⟨j, hj, hm, hej⟩ := hM0.1.some ok.1 hf
      have hj20 := hM0.1.2.1
      refine q_aload_n hJ dX11_does_0 (q := 1) rfl rfl (by first | rfl | exact isR_rr _) ?_
      refine q_iload_n hJ dX11_does_1 (q := 2) rfl rfl ?_
      refine q_iconst hJ (v := 1) dX11_does_2 (q := 3) rfl (by decide) ?_
      refine q_iadd hJ dX11_does_3 (q := 4) rfl ?_
      rw [nI_1 p]
      refine q_callV hJ dX11_does_4 (q := 7) rfl (M_numAt (p + 1) 2 e1 k (by omega) (by decide) tx n I R hFR hT hN1 hs1) imX11_numberAt ln_X11_192 (by first | exact ka317 | exact ka318 | exact ka319 | exact ka320 | exact ka321 | exact ka322) (by decide) rfl rfl rfl rfl (Nat.le_of_ble_eq_true rfl) (by decide) (by decide) rfl rfl (fun rv gv Iv Rv hv => ?_)
      obtain ⟨rfl, rfl, rfl, rfl⟩ := hv
      refine q_istore_n hJ dX11_does_7 (q := 8) rfl (by decide) ?_
      refine q_aload_n hJ dX11_does_8 (q := 9) rfl rfl (by first | rfl | exact isR_rr _) ?_
      refine q_iload_n hJ dX11_does_9 (q := 10) rfl rfl ?_
      refine q_iconst hJ (v := 1) dX11_does_10 (q := 11) rfl (by decide) ?_
      refine q_iadd hJ dX11_does_11 (q := 12) rfl ?_
      refine q_iconst hJ (v := 2) dX11_does_12 (q := 13) rfl (by decide) ?_
      rw [nI_1 p]
      refine q_callV hJ dX11_does_13 (q := 16) rfl (M_numberEnd (p + 1) 2 (by omega) (by decide) tx n I R hFR hT) imX11_numberEnd ln_X11_171 (by first | exact ka317 | exact ka318 | exact ka319 | exact ka320 | exact ka321 | exact ka322) (by decide) rfl rfl rfl rfl (Nat.le_of_ble_eq_true rfl) (by decide) (by decide) rfl rfl (fun rv gv Iv Rv hv => ?_)
      obtain ⟨rfl, rfl, rfl, rfl⟩ := hv
      rw [show enc (numF2 tx n 2 (p + 1, false)).2 = nI e1 from congrArg (fun z : Int32 × PS => enc z.2) hN1]
      refine q_istore_n hJ dX11_does_16 (q := 17) rfl (by decide) ?_
      refine q_aload_n hJ dX11_does_17 (q := 18) rfl rfl (by first | rfl | exact isR_rr _) ?_
      refine q_sipush hJ (v := 413) dX11_does_18 (q := 21) rfl (by decide) ?_
      refine q_iload_n hJ dX11_does_21 (q := 22) rfl rfl ?_
      refine q_callV hJ dX11_does_22 (q := 25) rfl (M_rowOf I R 413 (aN A) k (by decide) hM0.1.1 hM0.1.2.1 hFR) imX11_rowOf ln_X11_54 (by first | exact ka317 | exact ka318 | exact ka319 | exact ka320 | exact ka321 | exact ka322) (by decide) rfl rfl rfl rfl (Nat.le_of_ble_eq_true rfl) (by decide) (by decide) rfl rfl (fun rv gv Iv Rv hv => ?_)
      obtain ⟨rfl, rfl, rfl, rfl⟩ := hv
      rw [hm, show rwI 413 (some j) = nI (413 + 1 + 4 * j) from rfl]
      refine q_if_ge hJ (tgt := 34) dX11_does_25 (q := 28) rfl (by decide) (fun _ => ?_) (fun cr => absurd (nI_pos' (by omega)) cr)
      refine q_iconst hJ (v := 0) dX11_does_34 (q := 35) rfl (by decide) ?_
      refine q_istore hJ dX11_does_35 (q := 37) rfl (by decide) ?_
      refine q_aload_n hJ dX11_does_37 (q := 38) rfl rfl (by first | rfl | exact isR_rr _) ?_
      refine q_iload_n hJ dX11_does_38 (q := 39) rfl rfl ?_
      refine q_callV hJ dX11_does_39 (q := 42) rfl (M_sign p (by omega) tx n I R hFR hT) imX11_sign ln_X11_164 (by first | exact ka317 | exact ka318 | exact ka319 | exact ka320 | exact ka321 | exact ka322) (by decide) rfl rfl rfl rfl (Nat.le_of_ble_eq_true rfl) (by decide) (by decide) rfl rfl (fun rv gv Iv Rv hv => ?_)
      obtain ⟨rfl, rfl, rfl, rfl⟩ := hv
      refine q_bipush hJ (v := 105) dX11_does_42 (q := 44) rfl (by decide) ?_
      refine q_icmp_ne hJ (tgt := 113) dX11_does_44 (q := 47) rfl (by decide) (fun _ => ?_) (fun cz => absurd cz h105)
      refine q_aload_n hJ dX11_does_113 (q := 114) rfl rfl (by first | rfl | exact isR_rr _) ?_
      refine q_iload_n hJ dX11_does_114 (q := 115) rfl rfl ?_
      refine q_callV hJ dX11_does_115 (q := 118) rfl (M_sign p (by omega) tx n I R hFR hT) imX11_sign ln_X11_164 (by first | exact ka317 | exact ka318 | exact ka319 | exact ka320 | exact ka321 | exact ka322) (by decide) rfl rfl rfl rfl (Nat.le_of_ble_eq_true rfl) (by decide) (by decide) rfl rfl (fun rv gv Iv Rv hv => ?_)
      obtain ⟨rfl, rfl, rfl, rfl⟩ := hv
      refine q_bipush hJ (v := 117) dX11_does_118 (q := 120) rfl (by decide) ?_
      refine q_icmp_ne hJ (tgt := 176) dX11_does_120 (q := 123) rfl (by decide) (fun _ => ?_) (fun cy => absurd cy h117)
      refine q_iload hJ dX11_does_176 (q := 178) rfl rfl ?_
      refine q_if_ne hJ (tgt := 189) dX11_does_178 (q := 181) rfl (by decide) (fun c8 => absurd rfl c8) (fun _ => ?_)
      refine q_aload_n hJ dX11_does_181 (q := 182) rfl rfl (by first | rfl | exact isR_rr _) ?_
      refine q_sipush hJ (v := 413) dX11_does_182 (q := 185) rfl (by decide) ?_
      refine q_iload_n hJ dX11_does_185 (q := 186) rfl rfl ?_
      refine q_callV hJ dX11_does_186 (q := 189) rfl (M_runsDelete 413 (by decide) k (dltI A k) A I R hFR hM0 ok (dltF_0 (dltF_s hf))) imX11_runsDelete ln_X11_152 (by first | exact ka317 | exact ka318 | exact ka319 | exact ka320 | exact ka321 | exact ka322) (by decide) rfl rfl rfl rfl (Nat.le_of_ble_eq_true rfl) (by decide) (by decide) rfl rfl (fun rv gv Iv Rv hv => ?_)
      obtain ⟨rfl, rfl, rfl, hk, hmS, hokS, e8, e9, e10, e11, e12⟩ := hv
      have hran := DsPo.ran (R := R) (hps.trans (dltF_s hf)) hpx hk hmS hokS e11
      refine q_iload hJ dX11_does_189 (q := 191) rfl rfl ?_
      refine q_if_ne hJ (tgt := 207) dX11_does_191 (q := 194) rfl (by decide) (fun c9 => absurd rfl c9) (fun _ => ?_)
      refine q_aload_n hJ dX11_does_194 (q := 195) rfl rfl (by first | rfl | exact isR_rr _) ?_
      refine q_getI hJ dX11_does_195 (q := 198) rfl fl_X11_48 rfl (by first | exact ka317 | exact ka318 | exact ka319 | exact ka320 | exact ka321 | exact ka322) rfl ?_
      refine q_if_le hJ (tgt := 207) dX11_does_198 (q := 201) rfl (by decide) (fun c10 => ?_) (fun c10 => ?_)
      · refine q_iload hJ dX11_does_207 (q := 209) rfl rfl ?_
        refine q_iret hM dX11_does_209 rfl rfl ?_
        first
          | exact hran.1 c10
          | exact hran.2 c10
          | fail
      · refine q_sipush hJ (v := (-1005)) dX11_does_201 (q := 204) rfl (by decide) ?_
        refine q_goto hJ (tgt := 209) dX11_does_204 (by decide) ?_
        refine q_iret hM dX11_does_209 rfl rfl ?_
        first
          | exact hran.1 c10
          | exact hran.2 c10
          | fail
  · rw [bod_x F h100 h105 h117] at hx
    exact absurd (congrArg (fun z : PS => z.2) hx) (by simp)

