/-! THE MODEL: keyAt, depthFor -/
set_option maxRecDepth 100000 in
set_option maxHeartbeats 400000 in
theorem M_keyAt (x : Int32) (A : AS) (hs : Nat → AS) (h : Nat) (sn : AS) (kp : Bool) (tx : Nat → Int32) (tn : Nat) (I : MI) (R : MR) (hFR : FR R) (H : MOD I A hs h sn kp tx tn) : Sp 1 0 0 mX11_keyAt [.ref 317, .int x] g0 I R (Mv (keyF A x) I R) := by
  have hm0 := hFR.2.2.2.2.2.1
  have hm1 := hFR.2.2.2.2.2.2.1
  have hm3 := hFR.2.2.2.2.2.2.2.1
  have hm5 := hFR.2.2.2.2.2.2.2.2.1
  have hm7 := hFR.2.2.2.2.2.2.2.2.2
  have hR := H.1.1
  have ok := H.2.1.1
  have hU := H.1.2.1
  have hm12 := hU.2.1
  have hS := H.1.2.2.1
  have hL := H.1.2.2.2
  have okr := H.2.1.2.1
  refine Sp.on (by decide +kernel) rfl rfl (fun J hM => ?_)
  have hJ := hM.ok
  have loop : ∀ (k q l c : Nat), k + q = 100 → x = nI (l + c) → l + c < 2 ^ 31 → c ≤ aN A → (∀ i, i < c → aK A i 0 < nI q) → (∀ i, c ≤ i → i < aN A → nI q ≤ aK A i 0) → J 0 0 12 [some (.ref 317), some (.int x), some (.int (nI l)), some (.int (nI q))] [] g0 I R := by
    intro k
    induction k with
    | zero =>
      intro q l c hm hx hl hc hlt hge
      refine q_iload_n hJ dX11_keyAt_12 (q := 13) rfl rfl ?_
      refine q_bipush hJ (v := 100) dX11_keyAt_13 (q := 15) rfl (by decide) ?_
      refine q_icmp_ge hJ (tgt := 42) dX11_keyAt_15 (q := 18) rfl (by decide) (fun _ => ?_) (fun c5 => absurd ((nI_leI (a := 100) (b := q) (by decide) (by omega)).mpr (by omega)) c5)
      refine q_sipush hJ (v := (-1006)) dX11_keyAt_42 (q := 45) rfl (by decide) ?_
      refine q_iret hM dX11_keyAt_45 rfl rfl ?_
      have ec : c = aN A := by
          rcases Nat.lt_or_ge c (aN A) with z | z
          · obtain ⟨y, hy, ey⟩ := ok.1 c z
            have h2 := hge c (Nat.le_refl c) z
            rw [ey] at h2
            have := (nI_leI (by omega) (by omega)).mp h2
            omega
          · omega
      have hx0 : ¬ x < 0 := by rw [hx]; exact nI_pos hl
      exact ⟨iv ((if_neg hx0).trans (if_pos (by rw [hx, ec]; exact nI_le (by omega) (by omega)))).symm, rfl, rfl, rfl⟩
    | succ k ih =>
      intro q l c hm hx hl hc hlt hge
      rcases hf : fK A (nI q) with _ | i
      · refine q_iload_n hJ dX11_keyAt_12 (q := 13) rfl rfl ?_
        refine q_bipush hJ (v := 100) dX11_keyAt_13 (q := 15) rfl (by decide) ?_
        refine q_icmp_ge hJ (tgt := 42) dX11_keyAt_15 (q := 18) rfl (by decide) (fun c5 => absurd ((nI_leI (a := 100) (b := q) (by decide) (by omega)).mp c5) (by omega)) (fun _ => ?_)
        refine q_aload_n hJ dX11_keyAt_18 (q := 19) rfl rfl (by first | rfl | exact isR_rr _) ?_
        refine q_iconst hJ (v := 0) dX11_keyAt_19 (q := 20) rfl (by decide) ?_
        refine q_iload_n hJ dX11_keyAt_20 (q := 21) rfl rfl ?_
        refine q_callV hJ dX11_keyAt_21 (q := 24) rfl (M_rowOf I R 0 (aN A) (nI q) (by decide) hR.1 hR.2.1 hFR) imX11_rowOf ln_X11_54 (by first | exact ka317 | exact ka318 | exact ka319 | exact ka320 | exact ka321 | exact ka322) (by decide) rfl rfl rfl rfl (Nat.le_of_ble_eq_true rfl) (by decide) (by decide) rfl rfl (fun rv gv Iv Rv hv => ?_)
        obtain ⟨rfl, rfl, rfl, rfl⟩ := hv
        rw [hR.none hf, show rwI 0 none = -1 from rfl]
        refine q_if_lt hJ (tgt := 36) dX11_keyAt_24 (q := 27) rfl (by decide) (fun _ => ?_) (fun c6 => absurd (by decide) c6)
        refine q_iinc hJ dX11_keyAt_36 (q := 39) rfl (by decide) rfl (nI_1 q) ?_
        refine q_goto hJ (tgt := 12) dX11_keyAt_39 (by decide) ?_
        refine ih (q + 1) l c (by omega) hx hl hc (fun t ht => Int32.lt_trans (hlt t ht) (nI_lt (by omega) (by omega))) (fun t h1 h2 => ?_)
        have h3 := hge t h1 h2
        have h4 : ¬ aK A t 0 = nI q := fndF_none hf t (Nat.zero_le _) (by omega)
        obtain ⟨y, hy, ey⟩ := ok.1 t h2
        rw [ey] at h3 h4 ⊢
        have h5 := (nI_leI (by omega) (by omega)).mp h3
        have h6 : ¬ y = q := fun z => h4 (by rw [z])
        exact nI_le (by omega) (by omega)
      · obtain ⟨j, hj, hm2, he⟩ := hR.some ok hf
        have hj20 := hR.2.1
        obtain ⟨_, hin, hiq, _⟩ := fndF_some hf
        have hiq : aK A i 0 = nI q := hiq
        have hin : i < aN A := by omega
        have hic : i = c := by
          rcases Nat.lt_trichotomy i c with z | z | z
          · have := hlt i z; rw [hiq] at this; exact absurd this Int32.lt_irrefl
          · exact z
          · have h1 := ok.2 c i z hin
            rw [hiq] at h1
            exact absurd h1 (Int32.not_lt.mpr (hge c (Nat.le_refl c) (by omega)))
        refine q_iload_n hJ dX11_keyAt_12 (q := 13) rfl rfl ?_
        refine q_bipush hJ (v := 100) dX11_keyAt_13 (q := 15) rfl (by decide) ?_
        refine q_icmp_ge hJ (tgt := 42) dX11_keyAt_15 (q := 18) rfl (by decide) (fun c5 => absurd ((nI_leI (a := 100) (b := q) (by decide) (by omega)).mp c5) (by omega)) (fun _ => ?_)
        refine q_aload_n hJ dX11_keyAt_18 (q := 19) rfl rfl (by first | rfl | exact isR_rr _) ?_
        refine q_iconst hJ (v := 0) dX11_keyAt_19 (q := 20) rfl (by decide) ?_
        refine q_iload_n hJ dX11_keyAt_20 (q := 21) rfl rfl ?_
        refine q_callV hJ dX11_keyAt_21 (q := 24) rfl (M_rowOf I R 0 (aN A) (nI q) (by decide) hR.1 hR.2.1 hFR) imX11_rowOf ln_X11_54 (by first | exact ka317 | exact ka318 | exact ka319 | exact ka320 | exact ka321 | exact ka322) (by decide) rfl rfl rfl rfl (Nat.le_of_ble_eq_true rfl) (by decide) (by decide) rfl rfl (fun rv gv Iv Rv hv => ?_)
        obtain ⟨rfl, rfl, rfl, rfl⟩ := hv
        rw [hm2, show rwI 0 (some j) = nI (0 + 1 + 4 * j) from rfl]
        refine q_if_lt hJ (tgt := 36) dX11_keyAt_24 (q := 27) rfl (by decide) (fun c6 => absurd c6 (nI_pos (by omega))) (fun _ => ?_)
        refine q_iload_n hJ dX11_keyAt_27 (q := 28) rfl rfl ?_
        refine q_if_ne hJ (tgt := 33) dX11_keyAt_28 (q := 31) rfl (by decide) (fun c7 => ?_) (fun c7 => ?_)
        · have hl0 : 0 < l := by
              rcases Nat.eq_zero_or_pos l with z | z
              · exact absurd (show nI l = 0 by rw [z]; rfl) c7
              · exact z
          obtain ⟨l, rfl⟩ : ∃ t, l = t + 1 := ⟨l - 1, by omega⟩
          refine q_iinc hJ dX11_keyAt_33 (q := 36) rfl (by decide) rfl (nI_m1 l) ?_
          refine q_iinc hJ dX11_keyAt_36 (q := 39) rfl (by decide) rfl (nI_1 q) ?_
          refine q_goto hJ (tgt := 12) dX11_keyAt_39 (by decide) ?_
          refine ih (q + 1) l (c + 1) (by omega) (by rw [hx]; congr 1; omega) (by omega) (by omega) (fun t ht => ?_) (fun t h1 h2 => ?_)
          · by_cases e : t = c
            · rw [e, ← hic, hiq]; exact nI_lt (by omega) (by omega)
            · exact Int32.lt_trans (hlt t (by omega)) (nI_lt (by omega) (by omega))
          · have h3 := ok.2 i t (by omega) h2
            rw [hiq] at h3
            obtain ⟨y, hy, ey⟩ := ok.1 t h2
            rw [ey] at h3 ⊢
            have := (nI_ltI (by omega) (by omega)).mp h3
            exact nI_le (by omega) (by omega)
        · refine q_iload_n hJ dX11_keyAt_31 (q := 32) rfl rfl ?_
          refine q_iret hM dX11_keyAt_32 rfl rfl ?_
          have l0 : l = 0 := (nI_eq (a := l) (b := 0) (by omega) (by decide)).mp c7
          subst l0
          have hx0 : ¬ x < 0 := by rw [hx]; exact nI_pos hl
          have hcl : x.toNatClampNeg = c := by rw [hx, nI_clamp hl]; omega
          refine ⟨iv (Eq.symm ((if_neg hx0).trans ((if_neg ?_).trans ?_))), rfl, rfl, rfl⟩
          · rw [hx]; exact nI_ge (by omega) (by omega)
          · rw [hcl, ← hic]; exact hiq
  refine q_iload_n hJ dX11_keyAt_0 (q := 1) rfl rfl ?_
  refine q_if_ge hJ (tgt := 8) dX11_keyAt_1 (q := 4) rfl (by decide) (fun c1 => ?_) (fun c1 => ?_)
  · refine q_iload_n hJ dX11_keyAt_8 (q := 9) rfl rfl ?_
    refine q_istore_n hJ dX11_keyAt_9 (q := 10) rfl (by decide) ?_
    refine q_iconst hJ (v := 0) dX11_keyAt_10 (q := 11) rfl (by decide) ?_
    refine q_istore_n hJ dX11_keyAt_11 (q := 12) rfl (by decide) ?_
    obtain ⟨l0, hl0, hx⟩ := nI_of (Int32.not_lt.mpr c1)
    have h12 := loop 100 0 l0 0 rfl (by rw [Nat.add_zero]; exact hx) (by omega) (Nat.zero_le _) (fun i hi => absurd hi (Nat.not_lt_zero _)) (fun i _ hi => ?_)
    · rw [← hx] at h12; exact h12
    · obtain ⟨y, hy, ey⟩ := ok.1 i hi
      rw [ey]; exact nI_le (by omega) (by omega)
  · refine q_sipush hJ (v := (-1002)) dX11_keyAt_4 (q := 7) rfl (by decide) ?_
    refine q_iret hM dX11_keyAt_7 rfl rfl ?_
    exact ⟨iv (if_pos (Int32.not_le.mp c1)).symm, rfl, rfl, rfl⟩

theorem dep_ms {M : MI} {A : AS} (h : MS (M 318) 413 A) (j : Nat) : MS (up2 M 318 639 (nI j) 318) 413 (dpA A j) := by
  obtain ⟨a1, a2, a3, a4⟩ := h
  refine ⟨a1.of fun i _ q => up2_slot _ _ _ _ (by omega), a2.of fun i _ q => up2_slot _ _ _ _ (by omega), fun i hi => ?_, a4.of fun i q _ => up2_slot _ _ _ _ (by omega)⟩
  show _ = if i = 0 then nI j else aS A i
  by_cases e : i = 0
  · rw [if_pos e, e]; exact up2_self _ _ _ _
  · rw [if_neg e, up2_slot _ _ _ _ (by omega)]; exact a3 i hi
theorem dep_ok {A : AS} (h : okM A) (j : Nat) (h1 : 1 ≤ j) (h8 : j ≤ 8) : okM (dpA A j) := ⟨h.1, h.2.1, j, h1, h8, rfl⟩
theorem run_no {n : Nat} (h : n ≤ 100) : ¬ nI n = -1005 := by
  have key : ∀ n : Fin 101, ¬ nI n.1 = -1005 := by decide
  exact key ⟨n, by omega⟩
set_option maxRecDepth 100000 in
set_option maxHeartbeats 400000 in
theorem M_depthFor (k f v : Int32) (A : AS) (hs : Nat → AS) (h : Nat) (sn : AS) (kp : Bool) (tx : Nat → Int32) (tn : Nat) (I : MI) (R : MR) (hFR : FR R) (H : MOD I A hs h sn kp tx tn) : Sp 9 0 0 mX11_depthFor [.ref 317, .int k, .int f, .int v] g0 I R (MoP (dpV A k f v) I R (fun I' => MOD I' A hs h sn kp tx tn)) := by
  have hm0 := hFR.2.2.2.2.2.1
  have hm1 := hFR.2.2.2.2.2.2.1
  have hm3 := hFR.2.2.2.2.2.2.2.1
  have hm5 := hFR.2.2.2.2.2.2.2.2.1
  have hm7 := hFR.2.2.2.2.2.2.2.2.2
  have hR := H.1.1
  have ok := H.2.1.1
  refine Sp.on (by decide +kernel) rfl rfl (fun J hM => ?_)
  have hJ := hM.ok
  by_cases c1 : updF A k f v = 0
  · obtain ⟨f', hf3, rfl⟩ := (updF_0 c1).2
    have loop : updF A k (nI f') v = 0 → ∀ (n j : Nat) (I1 : MI) (y : Option Value), n + j = 9 → 1 ≤ j → MOD I1 A hs h sn kp tx tn → (∀ a, a < 317 → I1 a = I a) → dpV A k (nI f') v = dpF A k (nI f') v n j → J 0 0 12 [some (.ref 317), some (.int k), some (.int (nI f')), some (.int v), some (.int (updF A k (nI f') v)), some (.int (nI j))] [] g0 I1 R := by
      intro c1 n
      have hpr := (updF_0 c1).1
      induction n with
      | zero =>
        intro j I1 y hm hj1 H1 hlo hd
        refine q_iload hJ dX11_depthFor_12 (q := 14) rfl rfl ?_
        refine q_bipush hJ (v := 9) dX11_depthFor_14 (q := 16) rfl (by decide) ?_
        refine q_icmp_ge hJ (tgt := 68) dX11_depthFor_16 (q := 19) rfl (by decide) (fun _ => ?_) (fun c5 => absurd ((nI_leI (a := 9) (b := j) (by decide) (by omega)).mpr (by omega)) c5)
        refine q_iload hJ dX11_depthFor_68 (q := 70) rfl rfl ?_
        refine q_if_ne hJ (tgt := 79) dX11_depthFor_70 (q := 73) rfl (by decide) (fun c8 => absurd c1 c8) (fun _ => ?_)
        refine q_sipush hJ (v := (-1006)) dX11_depthFor_73 (q := 76) rfl (by decide) ?_
        refine q_goto hJ (tgt := 81) dX11_depthFor_76 (by decide) ?_
        refine q_iret hM dX11_depthFor_81 rfl rfl ?_
        exact ⟨by rw [hd]; rfl, rfl, rfl, hlo, H1⟩
      | succ n ih =>
        intro j I1 y hm hj1 H1 hlo hd
        have hj8 : j ≤ 8 := by omega
        refine q_iload hJ dX11_depthFor_12 (q := 14) rfl rfl ?_
        refine q_bipush hJ (v := 9) dX11_depthFor_14 (q := 16) rfl (by decide) ?_
        refine q_icmp_ge hJ (tgt := 68) dX11_depthFor_16 (q := 19) rfl (by decide) (fun c5 => absurd ((nI_leI (a := 9) (b := j) (by decide) (by omega)).mp c5) (by omega)) (fun _ => ?_)
        refine q_iload hJ dX11_depthFor_19 (q := 21) rfl rfl ?_
        refine q_if_ne hJ (tgt := 68) dX11_depthFor_21 (q := 24) rfl (by decide) (fun c6 => absurd c1 c6) (fun _ => ?_)
        refine q_aload_n hJ dX11_depthFor_24 (q := 25) rfl rfl (by first | rfl | exact isR_rr _) ?_
        refine q_iconst hJ (v := 0) dX11_depthFor_25 (q := 26) rfl (by decide) ?_
        refine q_sipush hJ (v := 413) dX11_depthFor_26 (q := 29) rfl (by decide) ?_
        refine q_callV hJ dX11_depthFor_29 (q := 32) rfl (M_copies 0 413 (Or.inl ⟨rfl, rfl⟩) I1 R hFR) imX11_copies ln_X11_36 (by first | exact ka317 | exact ka318 | exact ka319 | exact ka320 | exact ka321 | exact ka322) (by decide) rfl rfl rfl rfl (Nat.le_of_ble_eq_true rfl) (by decide) (by decide) rfl rfl (fun rv gv Iv Rv hv => ?_)
        obtain ⟨rfl, rfl, rfl, rfl⟩ := hv
        have hB := H1.beside
        have hD : MS (up2 (cpw I1 318 0 318 413 413) 318 639 (nI j) 318) 413 (dpA A j) := dep_ms hB j
        refine q_aload_n hJ dX11_depthFor_32 (q := 33) rfl rfl (by first | rfl | exact isR_rr _) ?_
        refine q_getR hJ dX11_depthFor_33 (q := 36) rfl fl_X11_7 rfl (by first | exact ka317 | exact ka318 | exact ka319 | exact ka320 | exact ka321 | exact ka322) (by assumption) rfl ?_
        refine q_sipush hJ (v := 639) dX11_depthFor_36 (q := 39) rfl (by decide) ?_
        refine q_iload hJ dX11_depthFor_39 (q := 41) rfl rfl ?_
        refine q_iast hJ dX11_depthFor_41 (q := 42) rfl (by first | exact ka317 | exact ka318 | exact ka319 | exact ka320 | exact ka321 | exact ka322) (ixE (j := 639) (by ((try simp only [nIl_add, nI_mul, nIl_0, nIl_1, nIl_2, nIl_3, nIl_4, nIl_5, nIl_6, nIl_7, nIl_8, nIl_9, nIl_10, nIl_11, nIl_12, nIl_20, nIl_60, nIl_72, nIl_80, nIl_81, nIl_82, nIl_99, nIl_100, nIl_226, nIl_227, nIl_228, nIl_229, nIl_230, nIl_231, nIl_232, nIl_233, nIl_413, nIl_1239, nIl_10000]) <;> first | done | rfl | exact congrArg nI (by omega))) (by decide) (by decide)) ?_
        refine q_aload_n hJ dX11_depthFor_42 (q := 43) rfl rfl (by first | rfl | exact isR_rr _) ?_
        refine q_sipush hJ (v := 413) dX11_depthFor_43 (q := 46) rfl (by decide) ?_
        refine q_iload_n hJ dX11_depthFor_46 (q := 47) rfl rfl ?_
        refine q_iload_n hJ dX11_depthFor_47 (q := 48) rfl rfl ?_
        refine q_iload_n hJ dX11_depthFor_48 (q := 49) rfl rfl ?_
        refine q_callV hJ dX11_depthFor_49 (q := 52) rfl (M_runsUpdate 413 f' hf3 (by decide) k v (updI A k (nI f') v) (dpA A j) _ R hFR hD (dep_ok H1.2.1 j hj1 hj8) hpr) imX11_runsUpdate ln_X11_149 (by first | exact ka317 | exact ka318 | exact ka319 | exact ka320 | exact ka321 | exact ka322) (by decide) rfl rfl rfl rfl (Nat.le_of_ble_eq_true rfl) (by decide) (by decide) rfl rfl (fun rv gv Iv Rv hv => ?_)
        obtain ⟨rfl, rfl, rfl, hk, hmS, hokS, e8, e9, e10, e11, e12⟩ := hv
        have hk2 : Kp 413 I1 Iv := ((kp_copy I1).u318 (by omega) _).tr hk
        have H2 := H1.kp hk2
        refine q_aload_n hJ dX11_depthFor_52 (q := 53) rfl rfl (by first | rfl | exact isR_rr _) ?_
        refine q_getI hJ dX11_depthFor_53 (q := 56) rfl fl_X11_48 rfl (by first | exact ka317 | exact ka318 | exact ka319 | exact ka320 | exact ka321 | exact ka322) e11 ?_
        refine q_if_ne hJ (tgt := 62) dX11_depthFor_56 (q := 59) rfl (by decide) (fun c7 => ?_) (fun c7 => ?_)
        · refine q_iinc hJ dX11_depthFor_62 (q := 65) rfl (by decide) rfl (nI_1 j) ?_
          refine q_goto hJ (tgt := 12) dX11_depthFor_65 (by decide) ?_
          refine ih (j + 1) Iv y (by omega) (by omega) H2 (fun a ha => (hk2.low a ha).trans (hlo a ha)) ?_
          rw [hd, dpF, if_pos (show runR (XR 1 (updI A k (nI f') v) (dpA A j)) = -1005 from if_neg c7)]
        · refine q_iload hJ dX11_depthFor_59 (q := 61) rfl rfl ?_
          refine q_iret hM dX11_depthFor_61 rfl rfl ?_
          have hne : ¬ runR (XR 1 (updI A k (nI f') v) (dpA A j)) = -1005 := by
              rw [runR, if_pos c7]
              exact run_no (XR_stb _ _ _).2
          exact ⟨by rw [hd, dpF, if_neg hne], rfl, rfl, fun a ha => (hk2.low a ha).trans (hlo a ha), H2⟩
    refine q_aload_n hJ dX11_depthFor_0 (q := 1) rfl rfl (by first | rfl | exact isR_rr _) ?_
    refine q_iload_n hJ dX11_depthFor_1 (q := 2) rfl rfl ?_
    refine q_iload_n hJ dX11_depthFor_2 (q := 3) rfl rfl ?_
    refine q_iload_n hJ dX11_depthFor_3 (q := 4) rfl rfl ?_
    refine q_callV hJ dX11_depthFor_4 (q := 7) rfl (M_wnuHere k (nI f') v A I R hFR hR ok) imX11_whyNotUpdateHere ln_X11_146 (by first | exact ka317 | exact ka318 | exact ka319 | exact ka320 | exact ka321 | exact ka322) (by decide) rfl rfl rfl rfl (Nat.le_of_ble_eq_true rfl) (by decide) (by decide) rfl rfl (fun rv gv Iv Rv hv => ?_)
    obtain ⟨rfl, rfl, rfl, rfl⟩ := hv
    refine q_istore hJ dX11_depthFor_7 (q := 9) rfl (by decide) ?_
    refine q_iconst hJ (v := 1) dX11_depthFor_9 (q := 10) rfl (by decide) ?_
    refine q_istore hJ dX11_depthFor_10 (q := 12) rfl (by decide) ?_
    exact loop c1 8 1 I none rfl (Nat.le_refl 1) H (fun _ _ => rfl) (if_pos c1)
  · refine q_aload_n hJ dX11_depthFor_0 (q := 1) rfl rfl (by first | rfl | exact isR_rr _) ?_
    refine q_iload_n hJ dX11_depthFor_1 (q := 2) rfl rfl ?_
    refine q_iload_n hJ dX11_depthFor_2 (q := 3) rfl rfl ?_
    refine q_iload_n hJ dX11_depthFor_3 (q := 4) rfl rfl ?_
    refine q_callV hJ dX11_depthFor_4 (q := 7) rfl (M_wnuHere k f v A I R hFR hR ok) imX11_whyNotUpdateHere ln_X11_146 (by first | exact ka317 | exact ka318 | exact ka319 | exact ka320 | exact ka321 | exact ka322) (by decide) rfl rfl rfl rfl (Nat.le_of_ble_eq_true rfl) (by decide) (by decide) rfl rfl (fun rv gv Iv Rv hv => ?_)
    obtain ⟨rfl, rfl, rfl, rfl⟩ := hv
    refine q_istore hJ dX11_depthFor_7 (q := 9) rfl (by decide) ?_
    refine q_iconst hJ (v := 1) dX11_depthFor_9 (q := 10) rfl (by decide) ?_
    refine q_istore hJ dX11_depthFor_10 (q := 12) rfl (by decide) ?_
    refine q_iload hJ dX11_depthFor_12 (q := 14) rfl rfl ?_
    refine q_bipush hJ (v := 9) dX11_depthFor_14 (q := 16) rfl (by decide) ?_
    refine q_icmp_ge hJ (tgt := 68) dX11_depthFor_16 (q := 19) rfl (by decide) (fun c5 => absurd c5 (by decide)) (fun _ => ?_)
    refine q_iload hJ dX11_depthFor_19 (q := 21) rfl rfl ?_
    refine q_if_ne hJ (tgt := 68) dX11_depthFor_21 (q := 24) rfl (by decide) (fun _ => ?_) (fun c6 => absurd c6 c1)
    refine q_iload hJ dX11_depthFor_68 (q := 70) rfl rfl ?_
    refine q_if_ne hJ (tgt := 79) dX11_depthFor_70 (q := 73) rfl (by decide) (fun _ => ?_) (fun c8 => absurd c8 c1)
    refine q_iload hJ dX11_depthFor_79 (q := 81) rfl rfl ?_
    refine q_iret hM dX11_depthFor_81 rfl rfl ?_
    exact ⟨iv (if_neg c1).symm, rfl, rfl, fun _ _ => rfl, H⟩

