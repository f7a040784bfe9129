/-! THE MODEL: the whole of it; history, snapshot -/
def MOD (I : MI) (A : AS) (hs : Nat → AS) (h : Nat) (sn : AS) (kp : Bool) (tx : Nat → Int32) (tn : Nat) : Prop := MS (I 318) 0 A ∧ okM A ∧ (I 317 2 = nI h ∧ h ≤ 4 ∧ ∀ j, j < h → MS (I 319) (413 * j) (hs j) ∧ okM (hs j)) ∧ (I 317 4 = (if kp = true then 1 else 0) ∧ (kp = true → MS (I 320) 0 sn ∧ okM sn)) ∧ (I 317 6 = nI tn ∧ tn ≤ 80 ∧ ∀ i, i < tn → I 321 i = tx i)
def MoP (v : Int32) (I : MI) (R : MR) (X : MI → Prop) : Po := fun r g' I' R' => r = some (.int v) ∧ g0 = g' ∧ R = R' ∧ (∀ a, a < 317 → I' a = I a) ∧ X I'
theorem MOD.kp {I I' : MI} {A : AS} {hs : Nat → AS} {h : Nat} {sn : AS} {kp : Bool} {tx : Nat → Int32} {tn : Nat} (H : MOD I A hs h sn kp tx tn) (k : Kp 413 I I') : MOD I' A hs h sn kp tx tn := by
  obtain ⟨a, b, ⟨c1, c2, c3⟩, ⟨d1, d2⟩, e1, e2, e3⟩ := H
  have k19 : I' 319 = I 319 := k.1 319 (by decide) (by decide) (by decide)
  have k20 : I' 320 = I 320 := k.1 320 (by decide) (by decide) (by decide)
  have k21 : I' 321 = I 321 := k.1 321 (by decide) (by decide) (by decide)
  exact ⟨a.at (Wnd.of fun i _ hi => k.2.2 i (by omega)), b, ⟨by rw [k.2.1 2 (by decide)]; exact c1, c2, by rw [k19]; exact c3⟩, ⟨by rw [k.2.1 4 (by decide)]; exact d1, by rw [k20]; exact d2⟩, by rw [k.2.1 6 (by decide)]; exact e1, e2, by rw [k21]; exact e3⟩
theorem Kp.low {p : Nat} {I I' : MI} (k : Kp p I I') : ∀ a, a < 317 → I' a = I a := fun a ha => k.1 a (by omega) (by omega) (by omega)
theorem cpw_wnd {I : MI} {a x b y : Nat} : Wnd (I a) (cpw I a x b y 413 b) x y := fun i hi u v hu hv => by rw [hu, hv]; exact cpw_in hi
theorem kp_copy (I : MI) : Kp 413 I (cpw I 318 0 318 413 413) := ⟨fun a _ h _ => cpw_o h, fun _ _ => congrFun (cpw_o (by decide)) _, fun i hi => cpw_out (by omega)⟩
theorem MOD.beside {I : MI} {A : AS} {hs : Nat → AS} {h : Nat} {sn : AS} {kp : Bool} {tx : Nat → Int32} {tn : Nat} (H : MOD I A hs h sn kp tx tn) : MS (cpw I 318 0 318 413 413 318) 413 A := H.1.at cpw_wnd
def RemPo (I : MI) (R : MR) (A : AS) (hs : Nat → AS) (h : Nat) (sn : AS) (kp : Bool) (tx : Nat → Int32) (tn : Nat) : Po := fun r g' I' R' => r = none ∧ g0 = g' ∧ R = R' ∧ MOD I' A (pushH hs h A) (pushN h) sn kp tx tn ∧ (∀ a, a ≠ 317 → a ≠ 319 → I' a = I a) ∧ ∀ k, k ≠ 2 → I' 317 k = I 317 k
theorem rem_part {I : MI} {R : MR} {A : AS} {hs : Nat → AS} {h : Nat} {sn : AS} {kp : Bool} {tx : Nat → Int32} {tn : Nat} (H : MOD I A hs h sn kp tx tn) (h4 : h < 4) : RemPo I R A hs h sn kp tx tn none g0 (up2 (cpw I 318 0 319 (413 * h) 413) 317 2 (nI (h + 1))) R := by
  obtain ⟨a, b, ⟨c1, c2, c3⟩, ⟨d1, d2⟩, e1, e2, e3⟩ := H
  have o : ∀ x, x ≠ 317 → x ≠ 319 → up2 (cpw I 318 0 319 (413 * h) 413) 317 2 (nI (h + 1)) x = I x := fun x h1 h2 => by rw [up2_other _ _ _ _ h1, cpw_o h2]
  have o7 : ∀ k, k ≠ 2 → up2 (cpw I 318 0 319 (413 * h) 413) 317 2 (nI (h + 1)) 317 k = I 317 k := fun k hk => by rw [up2_slot _ _ _ _ hk, cpw_o (by decide)]
  have e19 : up2 (cpw I 318 0 319 (413 * h) 413) 317 2 (nI (h + 1)) 319 = cpw I 318 0 319 (413 * h) 413 319 := up2_other _ _ _ _ (by decide)
  have eN : pushN h = h + 1 := if_pos h4
  refine ⟨rfl, rfl, rfl, ⟨by rw [o 318 (by decide) (by decide)]; exact a, b, ⟨by rw [eN, up2_self], by rw [eN]; omega, fun j hj => ?_⟩, ⟨by rw [o7 4 (by decide)]; exact d1, by rw [o 320 (by decide) (by decide)]; exact d2⟩, by rw [o7 6 (by decide)]; exact e1, e2, by rw [o 321 (by decide) (by decide)]; exact e3⟩, o, o7⟩
  rw [eN] at hj
  rw [e19]
  unfold pushH
  rw [if_pos h4]
  by_cases e : j = h
  · simp only [e, if_true]
    exact ⟨a.at cpw_wnd, b⟩
  · simp only [if_neg e]
    obtain ⟨m1, m2⟩ := c3 j (by omega)
    exact ⟨m1.at (Wnd.of fun i h1 h2 => cpw_out (by omega)), m2⟩
theorem rem_full {I : MI} {R : MR} {A : AS} {hs : Nat → AS} {h : Nat} {sn : AS} {kp : Bool} {tx : Nat → Int32} {tn : Nat} (H : MOD I A hs h sn kp tx tn) (h4 : h = 4) : RemPo I R A hs h sn kp tx tn none g0 (up2 (cpw (up2 (cpw I 319 413 319 0 1239) 317 2 (nI 3)) 318 0 319 (413 * 3) 413) 317 2 (nI (3 + 1))) R := by
  obtain ⟨a, b, ⟨c1, c2, c3⟩, ⟨d1, d2⟩, e1, e2, e3⟩ := H
  have o : ∀ x, x ≠ 317 → x ≠ 319 → up2 (cpw (up2 (cpw I 319 413 319 0 1239) 317 2 (nI 3)) 318 0 319 (413 * 3) 413) 317 2 (nI (3 + 1)) x = I x := fun x h1 h2 => by rw [up2_other _ _ _ _ h1, cpw_o h2, up2_other _ _ _ _ h1, cpw_o h2]
  have o7 : ∀ k, k ≠ 2 → up2 (cpw (up2 (cpw I 319 413 319 0 1239) 317 2 (nI 3)) 318 0 319 (413 * 3) 413) 317 2 (nI (3 + 1)) 317 k = I 317 k := fun k hk => by rw [up2_slot _ _ _ _ hk, cpw_o (by decide), up2_slot _ _ _ _ hk, cpw_o (by decide)]
  have e19 : up2 (cpw (up2 (cpw I 319 413 319 0 1239) 317 2 (nI 3)) 318 0 319 (413 * 3) 413) 317 2 (nI (3 + 1)) 319 = cpw (up2 (cpw I 319 413 319 0 1239) 317 2 (nI 3)) 318 0 319 (413 * 3) 413 319 := up2_other _ _ _ _ (by decide)
  have eN : pushN h = 4 := if_neg (by omega)
  refine ⟨rfl, rfl, rfl, ⟨by rw [o 318 (by decide) (by decide)]; exact a, b, ⟨by rw [eN, up2_self], by rw [eN]; decide, fun j hj => ?_⟩, ⟨by rw [o7 4 (by decide)]; exact d1, by rw [o 320 (by decide) (by decide)]; exact d2⟩, by rw [o7 6 (by decide)]; exact e1, e2, by rw [o 321 (by decide) (by decide)]; exact e3⟩, o, o7⟩
  rw [eN] at hj
  rw [e19]
  unfold pushH
  rw [if_neg (by omega)]
  by_cases e : j = 3
  · simp only [e, if_true]
    refine ⟨MS.at (M := I 318) a (fun i hi x y hx hy => ?_), b⟩
    rw [hy, cpw_in hi, hx, up2_other _ _ _ _ (by decide), cpw_o (by decide)]
  · simp only [if_neg e]
    unfold rotS
    rw [if_pos (by omega)]
    obtain ⟨m1, m2⟩ := c3 (j + 1) (by omega)
    refine ⟨m1.at (fun i hi x y hx hy => ?_), m2⟩
    rw [hy, cpw_out (by omega), up2_other _ _ _ _ (by decide), show 413 * j + i = 0 + (413 * j + i) by omega, cpw_in (by omega), hx]
    congr 1
    omega
set_option maxRecDepth 100000 in
set_option maxHeartbeats 400000 in
theorem M_remembers (A : AS) (hs : Nat → AS) (h : Nat) (sn : AS) (kp : Bool) (tx : Nat → Int32) (tn : Nat) (I : MI) (R : MR) (hFR : FR R) (H : MOD I A hs h sn kp tx tn) : Sp 0 0 0 mX11_remembers [.ref 317] g0 I R (RemPo I R A hs h sn kp tx tn) := by
  have hm0 := hFR.2.2.2.2.2.1
  have hm1 := hFR.2.2.2.2.2.2.1
  have hm3 := hFR.2.2.2.2.2.2.2.1
  have hm5 := hFR.2.2.2.2.2.2.2.2.1
  have hm7 := hFR.2.2.2.2.2.2.2.2.2
  have hh := H.2.2.1.1
  have hle := H.2.2.1.2.1
  refine Sp.on (by decide +kernel) rfl rfl (fun J hM => ?_)
  have hJ := hM.ok
  have loop1 : (J 0 0 39 [some (.ref 317), some (.int (nI 1239))] [] g0 (cpw I 319 413 319 0 1239) R) → ∀ (k j : Nat), k + j = 1239 → J 0 0 10 [some (.ref 317), some (.int (nI j))] [] g0 (cpw I 319 413 319 0 j) R := by
    intro hE k
    induction k with
    | zero =>
      intro j hm
      refine q_iload_n hJ dX11_remembers_10 (q := 11) rfl rfl ?_
      refine q_sipush hJ (v := 1239) dX11_remembers_11 (q := 14) rfl (by decide) ?_
      refine q_icmp_ge hJ (tgt := 39) dX11_remembers_14 (q := 17) rfl (by decide) (fun _ => ?_) (fun c5 => absurd ((nI_leI (a := 1239) (b := j) (by decide) (by omega)).mpr (by omega)) c5)
      have ej : j = 1239 := by omega
      subst ej
      exact hE
    | succ k ih =>
      intro j hm
      refine q_iload_n hJ dX11_remembers_10 (q := 11) rfl rfl ?_
      refine q_sipush hJ (v := 1239) dX11_remembers_11 (q := 14) rfl (by decide) ?_
      refine q_icmp_ge hJ (tgt := 39) dX11_remembers_14 (q := 17) rfl (by decide) (fun c5 => absurd ((nI_leI (a := 1239) (b := j) (by decide) (by omega)).mp c5) (by omega)) (fun _ => ?_)
      refine q_aload_n hJ dX11_remembers_17 (q := 18) rfl rfl (by first | rfl | exact isR_rr _) ?_
      refine q_getR hJ dX11_remembers_18 (q := 21) rfl fl_X11_13 rfl (by first | exact ka317 | exact ka318 | exact ka319 | exact ka320 | exact ka321 | exact ka322) (by assumption) rfl ?_
      refine q_iload_n hJ dX11_remembers_21 (q := 22) rfl rfl ?_
      refine q_aload_n hJ dX11_remembers_22 (q := 23) rfl rfl (by first | rfl | exact isR_rr _) ?_
      refine q_getR hJ dX11_remembers_23 (q := 26) rfl fl_X11_13 rfl (by first | exact ka317 | exact ka318 | exact ka319 | exact ka320 | exact ka321 | exact ka322) (by assumption) rfl ?_
      refine q_sipush hJ (v := 413) dX11_remembers_26 (q := 29) rfl (by decide) ?_
      refine q_iload_n hJ dX11_remembers_29 (q := 30) rfl rfl ?_
      refine q_iadd hJ dX11_remembers_30 (q := 31) rfl ?_
      refine q_iald hJ dX11_remembers_31 (q := 32) rfl (by first | exact ka317 | exact ka318 | exact ka319 | exact ka320 | exact ka321 | exact ka322) (ixE (j := 413 + j) (by ((try simp only [nIl_add, nI_mul, nIl_0, nIl_1, nIl_2, nIl_3, nIl_4, nIl_5, nIl_6, nIl_7, nIl_8, nIl_9, nIl_10, nIl_11, nIl_12, nIl_20, nIl_60, nIl_72, nIl_80, nIl_81, nIl_82, nIl_99, nIl_100, nIl_226, nIl_227, nIl_228, nIl_229, nIl_230, nIl_231, nIl_232, nIl_233, nIl_413, nIl_1239, nIl_10000]) <;> first | done | rfl | exact congrArg nI (by omega))) (by omega) (by decide)) (show _ = I 319 (413 + j) from cpw_out (by omega)) ?_
      refine q_iast hJ dX11_remembers_32 (q := 33) rfl (by first | exact ka317 | exact ka318 | exact ka319 | exact ka320 | exact ka321 | exact ka322) (ixE (j := j) (by ((try simp only [nIl_add, nI_mul, nIl_0, nIl_1, nIl_2, nIl_3, nIl_4, nIl_5, nIl_6, nIl_7, nIl_8, nIl_9, nIl_10, nIl_11, nIl_12, nIl_20, nIl_60, nIl_72, nIl_80, nIl_81, nIl_82, nIl_99, nIl_100, nIl_226, nIl_227, nIl_228, nIl_229, nIl_230, nIl_231, nIl_232, nIl_233, nIl_413, nIl_1239, nIl_10000]) <;> first | done | rfl | exact congrArg nI (by omega))) (by omega) (by decide)) ?_
      refine q_iinc hJ dX11_remembers_33 (q := 36) rfl (by decide) rfl (nI_1 j) ?_
      refine q_goto hJ (tgt := 10) dX11_remembers_36 (by decide) ?_
      have hs1 : up2 (cpw I 319 413 319 0 j) 319 j (I 319 (413 + j)) = cpw I 319 413 319 0 (j + 1) := by have := cpw_step (I := I) (a := 319) (x := 413) (b := 319) (y := 0) (n := j); rw [Nat.zero_add] at this; exact this
      rw [hs1]
      exact ih (j + 1) (by omega)
  have loop2 : ∀ (q : Nat), q < 4 → ∀ I1 : MI, I1 317 2 = nI q → (RemPo I R A hs h sn kp tx tn) none g0 (up2 (cpw I1 318 0 319 (413 * q) 413) 317 2 (nI (q + 1))) R → ∀ (k j : Nat), k + j = 413 → J 0 0 51 [some (.ref 317), some (.int (nI j))] [] g0 (cpw I1 318 0 319 (413 * q) j) R := by
    intro q hq4 I1 hq hF k
    induction k with
    | zero =>
      intro j hm
      refine q_iload_n hJ dX11_remembers_51 (q := 52) rfl rfl ?_
      refine q_sipush hJ (v := 413) dX11_remembers_52 (q := 55) rfl (by decide) ?_
      refine q_icmp_ge hJ (tgt := 85) dX11_remembers_55 (q := 58) rfl (by decide) (fun _ => ?_) (fun c5 => absurd ((nI_leI (a := 413) (b := j) (by decide) (by omega)).mpr (by omega)) c5)
      refine q_aload_n hJ dX11_remembers_85 (q := 86) rfl rfl (by first | rfl | exact isR_rr _) ?_
      refine q_dup hJ dX11_remembers_86 (q := 87) rfl rfl ?_
      refine q_getI hJ dX11_remembers_87 (q := 90) rfl fl_X11_29 rfl (by first | exact ka317 | exact ka318 | exact ka319 | exact ka320 | exact ka321 | exact ka322) (show _ = nI q by rw [cpw_o (by decide)]; exact hq) ?_
      refine q_iconst hJ (v := 1) dX11_remembers_90 (q := 91) rfl (by decide) ?_
      refine q_iadd hJ dX11_remembers_91 (q := 92) rfl ?_
      rw [show nI q + 1 = nI (q + 1) from nI_1 q]
      refine q_putI hJ dX11_remembers_92 (q := 95) rfl fl_X11_29 rfl rfl (by first | exact ka317 | exact ka318 | exact ka319 | exact ka320 | exact ka321 | exact ka322) rfl rfl ?_
      refine q_vret hM dX11_remembers_95 rfl ?_
      have ej : j = 413 := by omega
      subst ej
      exact hF
    | succ k ih =>
      intro j hm
      refine q_iload_n hJ dX11_remembers_51 (q := 52) rfl rfl ?_
      refine q_sipush hJ (v := 413) dX11_remembers_52 (q := 55) rfl (by decide) ?_
      refine q_icmp_ge hJ (tgt := 85) dX11_remembers_55 (q := 58) rfl (by decide) (fun c5 => absurd ((nI_leI (a := 413) (b := j) (by decide) (by omega)).mp c5) (by omega)) (fun _ => ?_)
      refine q_aload_n hJ dX11_remembers_58 (q := 59) rfl rfl (by first | rfl | exact isR_rr _) ?_
      refine q_getR hJ dX11_remembers_59 (q := 62) rfl fl_X11_13 rfl (by first | exact ka317 | exact ka318 | exact ka319 | exact ka320 | exact ka321 | exact ka322) (by assumption) rfl ?_
      refine q_sipush hJ (v := 413) dX11_remembers_62 (q := 65) rfl (by decide) ?_
      refine q_aload_n hJ dX11_remembers_65 (q := 66) rfl rfl (by first | rfl | exact isR_rr _) ?_
      refine q_getI hJ dX11_remembers_66 (q := 69) rfl fl_X11_29 rfl (by first | exact ka317 | exact ka318 | exact ka319 | exact ka320 | exact ka321 | exact ka322) (show _ = nI q by rw [cpw_o (by decide)]; exact hq) ?_
      refine q_imul hJ dX11_remembers_69 (q := 70) rfl ?_
      refine q_iload_n hJ dX11_remembers_70 (q := 71) rfl rfl ?_
      refine q_iadd hJ dX11_remembers_71 (q := 72) rfl ?_
      refine q_aload_n hJ dX11_remembers_72 (q := 73) rfl rfl (by first | rfl | exact isR_rr _) ?_
      refine q_getR hJ dX11_remembers_73 (q := 76) rfl fl_X11_7 rfl (by first | exact ka317 | exact ka318 | exact ka319 | exact ka320 | exact ka321 | exact ka322) (by assumption) rfl ?_
      refine q_iload_n hJ dX11_remembers_76 (q := 77) rfl rfl ?_
      refine q_iald hJ dX11_remembers_77 (q := 78) rfl (by first | exact ka317 | exact ka318 | exact ka319 | exact ka320 | exact ka321 | exact ka322) (ixE (j := j) (by ((try simp only [nIl_add, nI_mul, nIl_0, nIl_1, nIl_2, nIl_3, nIl_4, nIl_5, nIl_6, nIl_7, nIl_8, nIl_9, nIl_10, nIl_11, nIl_12, nIl_20, nIl_60, nIl_72, nIl_80, nIl_81, nIl_82, nIl_99, nIl_100, nIl_226, nIl_227, nIl_228, nIl_229, nIl_230, nIl_231, nIl_232, nIl_233, nIl_413, nIl_1239, nIl_10000]) <;> first | done | rfl | exact congrArg nI (by omega))) (by omega) (by decide)) (show _ = I1 318 (0 + j) by rw [cpw_o (by decide), Nat.zero_add]) ?_
      refine q_iast hJ dX11_remembers_78 (q := 79) rfl (by first | exact ka317 | exact ka318 | exact ka319 | exact ka320 | exact ka321 | exact ka322) (ixE (j := 413 * q + j) (by ((try simp only [nIl_add, nI_mul, nIl_0, nIl_1, nIl_2, nIl_3, nIl_4, nIl_5, nIl_6, nIl_7, nIl_8, nIl_9, nIl_10, nIl_11, nIl_12, nIl_20, nIl_60, nIl_72, nIl_80, nIl_81, nIl_82, nIl_99, nIl_100, nIl_226, nIl_227, nIl_228, nIl_229, nIl_230, nIl_231, nIl_232, nIl_233, nIl_413, nIl_1239, nIl_10000]) <;> first | done | rfl | exact congrArg nI (by omega))) (by omega) (by decide)) ?_
      refine q_iinc hJ dX11_remembers_79 (q := 82) rfl (by decide) rfl (nI_1 j) ?_
      refine q_goto hJ (tgt := 51) dX11_remembers_82 (by decide) ?_
      rw [cpw_step]
      exact ih (j + 1) (by omega)
  by_cases h4 : h = 4
  · refine q_aload_n hJ dX11_remembers_0 (q := 1) rfl rfl (by first | rfl | exact isR_rr _) ?_
    refine q_getI hJ dX11_remembers_1 (q := 4) rfl fl_X11_29 rfl (by first | exact ka317 | exact ka318 | exact ka319 | exact ka320 | exact ka321 | exact ka322) hh ?_
    refine q_iconst hJ (v := 4) dX11_remembers_4 (q := 5) rfl (by decide) ?_
    refine q_icmp_ne hJ (tgt := 49) dX11_remembers_5 (q := 8) rfl (by decide) (fun c1 => absurd c1 (fun z => z (by rw [h4]; rfl))) (fun _ => ?_)
    refine q_iconst hJ (v := 0) dX11_remembers_8 (q := 9) rfl (by decide) ?_
    refine q_istore_n hJ dX11_remembers_9 (q := 10) rfl (by decide) ?_
    have h10 := loop1 ?_ 1239 0 rfl
    · rw [cpw_0] at h10; exact h10
    · refine q_aload_n hJ dX11_remembers_39 (q := 40) rfl rfl (by first | rfl | exact isR_rr _) ?_
      refine q_dup hJ dX11_remembers_40 (q := 41) rfl rfl ?_
      refine q_getI hJ dX11_remembers_41 (q := 44) rfl fl_X11_29 rfl (by first | exact ka317 | exact ka318 | exact ka319 | exact ka320 | exact ka321 | exact ka322) (show _ = nI 4 by rw [cpw_o (by decide), hh, h4]) ?_
      refine q_iconst hJ (v := 1) dX11_remembers_44 (q := 45) rfl (by decide) ?_
      refine q_isub hJ dX11_remembers_45 (q := 46) rfl ?_
      rw [show nI 4 - 1 = nI 3 from rfl]
      refine q_putI hJ dX11_remembers_46 (q := 49) rfl fl_X11_29 rfl rfl (by first | exact ka317 | exact ka318 | exact ka319 | exact ka320 | exact ka321 | exact ka322) rfl rfl ?_
      refine q_iconst hJ (v := 0) dX11_remembers_49 (q := 50) rfl (by decide) ?_
      refine q_istore_n hJ dX11_remembers_50 (q := 51) rfl (by decide) ?_
      have h51 := loop2 3 (by decide) (up2 (cpw I 319 413 319 0 1239) 317 2 (nI 3)) (up2_self _ _ _ _) ?_ 413 0 rfl
      · rw [cpw_0] at h51; exact h51
      · exact rem_full H h4
  · refine q_aload_n hJ dX11_remembers_0 (q := 1) rfl rfl (by first | rfl | exact isR_rr _) ?_
    refine q_getI hJ dX11_remembers_1 (q := 4) rfl fl_X11_29 rfl (by first | exact ka317 | exact ka318 | exact ka319 | exact ka320 | exact ka321 | exact ka322) hh ?_
    refine q_iconst hJ (v := 4) dX11_remembers_4 (q := 5) rfl (by decide) ?_
    refine q_icmp_ne hJ (tgt := 49) dX11_remembers_5 (q := 8) rfl (by decide) (fun _ => ?_) (fun c1 => absurd c1 (fun z => h4 ((nI_eq (a := h) (b := 4) (by omega) (by decide)).mp z)))
    refine q_iconst hJ (v := 0) dX11_remembers_49 (q := 50) rfl (by decide) ?_
    refine q_istore_n hJ dX11_remembers_50 (q := 51) rfl (by decide) ?_
    have h51 := loop2 h (by omega) I hh ?_ 413 0 rfl
    · rw [cpw_0] at h51; exact h51
    · exact rem_part H (by omega)

set_option maxRecDepth 100000 in
set_option maxHeartbeats 400000 in
theorem M_lays (B : AS) (A : AS) (hs : Nat → AS) (h : Nat) (sn : AS) (kp : Bool) (tx : Nat → Int32) (tn : Nat) (I : MI) (R : MR) (hFR : FR R) (H : MOD I A hs h sn kp tx tn) (hB : MS (I 318) 413 B) (okB : okM B) : Sp 1 0 0 mX11_lays [.ref 317] g0 I R (fun r g' I' R' => r = none ∧ g0 = g' ∧ R = R' ∧ MOD I' B (pushH hs h A) (pushN h) sn kp tx tn ∧ (∀ a, a ≠ 317 → a ≠ 318 → a ≠ 319 → I' a = I a) ∧ ∀ k, k ≠ 2 → I' 317 k = I 317 k) := by
  have hm0 := hFR.2.2.2.2.2.1
  have hm1 := hFR.2.2.2.2.2.2.1
  have hm3 := hFR.2.2.2.2.2.2.2.1
  have hm5 := hFR.2.2.2.2.2.2.2.2.1
  have hm7 := hFR.2.2.2.2.2.2.2.2.2
  refine Sp.on (by decide +kernel) rfl rfl (fun J hM => ?_)
  have hJ := hM.ok
  refine q_aload_n hJ dX11_lays_0 (q := 1) rfl rfl (by first | rfl | exact isR_rr _) ?_
  refine q_callV hJ dX11_lays_1 (q := 4) rfl (M_remembers A hs h sn kp tx tn I R hFR H) imX11_remembers ln_X11_33 (by first | exact ka317 | exact ka318 | exact ka319 | exact ka320 | exact ka321 | exact ka322) (by decide) rfl rfl rfl rfl (Nat.le_of_ble_eq_true rfl) (by decide) (by decide) rfl rfl (fun rv gv Iv Rv hv => ?_)
  obtain ⟨rfl, rfl, rfl, H1, ho, ho7⟩ := hv
  refine q_aload_n hJ dX11_lays_4 (q := 5) rfl rfl (by first | rfl | exact isR_rr _) ?_
  refine q_sipush hJ (v := 413) dX11_lays_5 (q := 8) rfl (by decide) ?_
  refine q_iconst hJ (v := 0) dX11_lays_8 (q := 9) rfl (by decide) ?_
  refine q_callV hJ dX11_lays_9 (q := 12) rfl (M_copies 413 0 (Or.inr ⟨rfl, rfl⟩) _ R hFR) imX11_copies ln_X11_36 (by first | exact ka317 | exact ka318 | exact ka319 | exact ka320 | exact ka321 | exact ka322) (by decide) rfl rfl rfl rfl (Nat.le_of_ble_eq_true rfl) (by decide) (by decide) rfl rfl (fun rv gv Iv Rv hv => ?_)
  obtain ⟨rfl, rfl, rfl, rfl⟩ := hv
  refine q_vret hM dX11_lays_12 rfl ?_
  refine ⟨rfl, rfl, rfl, ?_, fun a h1 h2 h3 => by rw [cpw_o h2, ho a h1 h3], fun k hk => by rw [cpw_o (by decide), ho7 k hk]⟩
  obtain ⟨a, b, ⟨c1, c2, c3⟩, ⟨d1, d2⟩, e1, e2, e3⟩ := H1
  refine ⟨MS.at (M := I 318) hB (fun i hi x y hx hy => by rw [hy, cpw_in hi, hx, ho 318 (by decide) (by decide)]), okB, ⟨by rw [cpw_o (by decide)]; exact c1, c2, by rw [cpw_o (by decide)]; exact c3⟩, ⟨by rw [cpw_o (by decide)]; exact d1, by rw [cpw_o (by decide)]; exact d2⟩, by rw [cpw_o (by decide)]; exact e1, e2, by rw [cpw_o (by decide)]; exact e3⟩

set_option maxRecDepth 100000 in
set_option maxHeartbeats 400000 in
theorem M_ends (X : XS) (A : AS) (hs : Nat → AS) (h : Nat) (sn : AS) (kp : Bool) (tx : Nat → Int32) (tn : Nat) (I : MI) (R : MR) (hFR : FR R) (H : MOD I A hs h sn kp tx tn) (hB : MS (I 318) 413 (finA X)) (okB : okM (finA X)) (h8 : I 317 8 = nI (xO X)) (h11 : I 317 11 = xR X) (hR3 : ¬ xR X < 0) : Sp 2 0 0 mX11_ends [.ref 317] g0 I R (MoP (runR X) I R (fun I' => if xR X = 0 then MOD I' (finA X) (pushH hs h A) (pushN h) sn kp tx tn else MOD I' A hs h sn kp tx tn)) := by
  have hm0 := hFR.2.2.2.2.2.1
  have hm1 := hFR.2.2.2.2.2.2.1
  have hm3 := hFR.2.2.2.2.2.2.2.1
  have hm5 := hFR.2.2.2.2.2.2.2.2.1
  have hm7 := hFR.2.2.2.2.2.2.2.2.2
  refine Sp.on (by decide +kernel) rfl rfl (fun J hM => ?_)
  have hJ := hM.ok
  by_cases hx : xR X = 0
  · refine q_aload_n hJ dX11_ends_0 (q := 1) rfl rfl (by first | rfl | exact isR_rr _) ?_
    refine q_getI hJ dX11_ends_1 (q := 4) rfl fl_X11_48 rfl (by first | exact ka317 | exact ka318 | exact ka319 | exact ka320 | exact ka321 | exact ka322) h11 ?_
    refine q_if_le hJ (tgt := 11) dX11_ends_4 (q := 7) rfl (by decide) (fun _ => ?_) (fun c1 => absurd (by rw [hx]; decide) c1)
    refine q_aload_n hJ dX11_ends_11 (q := 12) rfl rfl (by first | rfl | exact isR_rr _) ?_
    refine q_callV hJ dX11_ends_12 (q := 15) rfl (M_lays (finA X) A hs h sn kp tx tn I R hFR H hB okB) imX11_lays ln_X11_123 (by first | exact ka317 | exact ka318 | exact ka319 | exact ka320 | exact ka321 | exact ka322) (by decide) rfl rfl rfl rfl (Nat.le_of_ble_eq_true rfl) (by decide) (by decide) rfl rfl (fun rv gv Iv Rv hv => ?_)
    obtain ⟨rfl, rfl, rfl, H1, ho, ho7⟩ := hv
    refine q_aload_n hJ dX11_ends_15 (q := 16) rfl rfl (by first | rfl | exact isR_rr _) ?_
    refine q_getI hJ dX11_ends_16 (q := 19) rfl fl_X11_64 rfl (by first | exact ka317 | exact ka318 | exact ka319 | exact ka320 | exact ka321 | exact ka322) ((ho7 8 (by decide)).trans h8) ?_
    refine q_iret hM dX11_ends_19 rfl rfl ?_
    exact ⟨by rw [runR, if_pos hx], rfl, rfl, fun a ha => ho a (by omega) (by omega) (by omega), by show (if xR X = 0 then _ else _); rw [if_pos hx]; exact H1⟩
  · have hgt : ¬ xR X ≤ 0 := fun z => hx (Int32.le_antisymm z (Int32.not_lt.mp hR3))
    refine q_aload_n hJ dX11_ends_0 (q := 1) rfl rfl (by first | rfl | exact isR_rr _) ?_
    refine q_getI hJ dX11_ends_1 (q := 4) rfl fl_X11_48 rfl (by first | exact ka317 | exact ka318 | exact ka319 | exact ka320 | exact ka321 | exact ka322) h11 ?_
    refine q_if_le hJ (tgt := 11) dX11_ends_4 (q := 7) rfl (by decide) (fun c1 => absurd c1 hgt) (fun _ => ?_)
    refine q_sipush hJ (v := (-1005)) dX11_ends_7 (q := 10) rfl (by decide) ?_
    refine q_iret hM dX11_ends_10 rfl rfl ?_
    exact ⟨by rw [runR, if_neg hx], rfl, rfl, fun _ _ => rfl, by show (if xR X = 0 then _ else _); rw [if_neg hx]; exact H⟩

