/-! THE MODEL: settings, text, history, keys, depths -/
theorem setE {A : AS} {s v : Int32} {q : Nat} (hq : (if s = 0 then 0 else 1) = q) : setA A s v = setS A (fun i => if i = q then v else aS A i) := by unfold setA; rw [hq]
theorem SetQ.put {M M' : Nat → Int32} {S : Nat → Int32} (h : SetQ M 0 S) {q : Nat} {v : Int32} (h1 : M' (0 + 226 + q) = v) (h2 : ∀ i, i ≠ 0 + 226 + q → M' i = M i) : SetQ M' 0 (fun i => if i = q then v else S i) := fun i hi => by
  show _ = if i = q then v else S i
  by_cases e : i = q
  · rw [if_pos e, e]; exact h1
  · rw [if_neg e, h2 _ (by omega)]; exact h i hi
theorem in_18 {v : Int32} (h : ¬ inR v 1 8 = 0) : ∃ G, 1 ≤ G ∧ G ≤ 8 ∧ v = nI G := by
  obtain ⟨h1, h2⟩ := inR_iff h
  obtain ⟨j, hj, rfl⟩ := nI_of2 (M := 8) (n := 8) rfl (fun z => h1 (Int32.lt_trans z (by decide))) (Int32.not_lt.mp h2)
  refine ⟨j, ?_, hj, rfl⟩
  rcases Nat.eq_zero_or_pos j with e | e
  · exact absurd (show nI j < 1 by rw [e]; decide) h1
  · exact e
set_option maxRecDepth 100000 in
set_option maxHeartbeats 400000 in
theorem M_set (s v : Int32) (A : AS) (hs : Nat → AS) (h : Nat) (sn : AS) (kp : Bool) (tx : Nat → Int32) (tn : Nat) (I : MI) (R : MR) (hFR : FR R) (H : MOD I A hs h sn kp tx tn) : Sp 1 0 0 mX11_set [.ref 317, .int s, .int v] g0 I R (MoP (setV A s v) I R (fun I' => (setOk A s v ∧ MOD I' (setA A s v) (pushH hs h A) (pushN h) sn kp tx tn) ∨ (¬ setOk A s v ∧ MOD I' A hs h sn kp tx tn))) := by
  have hm0 := hFR.2.2.2.2.2.1
  have hm1 := hFR.2.2.2.2.2.2.1
  have hm3 := hFR.2.2.2.2.2.2.2.1
  have hm5 := hFR.2.2.2.2.2.2.2.2.1
  have hm7 := hFR.2.2.2.2.2.2.2.2.2
  have hR := H.1.1
  have ok := H.2.1.1
  have hU := H.1.2.1
  have hm12 := hU.2.1
  have hS := H.1.2.2.1
  have hL := H.1.2.2.2
  have okr := H.2.1.2.1
  refine Sp.on (by decide +kernel) rfl rfl (fun J hM => ?_)
  have hJ := hM.ok
  by_cases hs0 : inR s 0 1 = 0
  · refine q_iload_n hJ dX11_set_0 (q := 1) rfl rfl ?_
    refine q_iconst hJ (v := 0) dX11_set_1 (q := 2) rfl (by decide) ?_
    refine q_iconst hJ (v := 1) dX11_set_2 (q := 3) rfl (by decide) ?_
    refine q_callS hJ dX11_set_3 (q := 6) rfl (M_in s 0 1 I R) imX11_in ln_X11_25 rfl rfl rfl (Nat.le_of_ble_eq_true rfl) (by decide) (by decide) rfl rfl (fun rv gv Iv Rv hv => ?_)
    obtain ⟨rfl, rfl, rfl, rfl⟩ := hv
    refine q_if_ne hJ (tgt := 13) dX11_set_6 (q := 9) rfl (by decide) (fun c0 => absurd hs0 c0) (fun _ => ?_)
    refine q_sipush hJ (v := (-1001)) dX11_set_9 (q := 12) rfl (by decide) ?_
    refine q_iret hM dX11_set_12 rfl rfl ?_
    exact ⟨iv (if_pos hs0).symm, rfl, rfl, fun _ _ => rfl, Or.inr ⟨fun z => z.1 hs0, H⟩⟩
  have h01 : s = 0 ∨ s = 1 := by
    obtain ⟨j, hj, rfl⟩ := in_n (n := 1) (by decide) hs0
    rcases (show j = 0 ∨ j = 1 by omega) with rfl | rfl
    · exact Or.inl rfl
    · exact Or.inr rfl
  rcases h01 with rfl | rfl
  · refine q_iload_n hJ dX11_set_0 (q := 1) rfl rfl ?_
    refine q_iconst hJ (v := 0) dX11_set_1 (q := 2) rfl (by decide) ?_
    refine q_iconst hJ (v := 1) dX11_set_2 (q := 3) rfl (by decide) ?_
    refine q_callS hJ dX11_set_3 (q := 6) rfl (M_in 0 0 1 I R) imX11_in ln_X11_25 rfl rfl rfl (Nat.le_of_ble_eq_true rfl) (by decide) (by decide) rfl rfl (fun rv gv Iv Rv hv => ?_)
    obtain ⟨rfl, rfl, rfl, rfl⟩ := hv
    rw [show inR 0 0 1 = 1 from rfl]
    refine q_if_ne hJ (tgt := 13) dX11_set_6 (q := 9) rfl (by decide) (fun _ => ?_) (fun c0 => absurd c0 (by decide))
    refine q_iload_n hJ dX11_set_13 (q := 14) rfl rfl ?_
    refine q_iconst hJ (v := 1) dX11_set_14 (q := 15) rfl (by decide) ?_
    refine q_iload_n hJ dX11_set_15 (q := 16) rfl rfl ?_
    refine q_isub hJ dX11_set_16 (q := 17) rfl ?_
    refine q_iload_n hJ dX11_set_17 (q := 18) rfl rfl ?_
    refine q_if_ne hJ (tgt := 26) dX11_set_18 (q := 21) rfl (by decide) (fun cs => absurd cs (fun z => z rfl)) (fun _ => ?_)
    refine q_bipush hJ (v := 8) dX11_set_21 (q := 23) rfl (by decide) ?_
    refine q_goto hJ (tgt := 27) dX11_set_23 (by decide) ?_
    rw [show (1 : Int32) - 0 = 1 from rfl]
    refine q_callS hJ dX11_set_27 (q := 30) rfl (M_in v 1 8 I R) imX11_in ln_X11_25 rfl rfl rfl (Nat.le_of_ble_eq_true rfl) (by decide) (by decide) rfl rfl (fun rv gv Iv Rv hv => ?_)
    obtain ⟨rfl, rfl, rfl, rfl⟩ := hv
    refine q_if_ne hJ (tgt := 37) dX11_set_30 (q := 33) rfl (by decide) (fun c1 => ?_) (fun c1 => ?_)
    · refine q_aload_n hJ dX11_set_37 (q := 38) rfl rfl (by first | rfl | exact isR_rr _) ?_
      refine q_getR hJ dX11_set_38 (q := 41) rfl fl_X11_7 rfl (by first | exact ka317 | exact ka318 | exact ka319 | exact ka320 | exact ka321 | exact ka322) (by assumption) rfl ?_
      refine q_sipush hJ (v := 226) dX11_set_41 (q := 44) rfl (by decide) ?_
      refine q_iload_n hJ dX11_set_44 (q := 45) rfl rfl ?_
      refine q_iadd hJ dX11_set_45 (q := 46) rfl ?_
      refine q_iald hJ dX11_set_46 (q := 47) rfl (by first | exact ka317 | exact ka318 | exact ka319 | exact ka320 | exact ka321 | exact ka322) (ixE (j := 0 + 226 + 0) (by ((try simp only [nIl_add, nI_mul, nIl_0, nIl_1, nIl_2, nIl_3, nIl_4, nIl_5, nIl_6, nIl_7, nIl_8, nIl_9, nIl_10, nIl_11, nIl_12, nIl_20, nIl_60, nIl_72, nIl_80, nIl_81, nIl_82, nIl_99, nIl_100, nIl_226, nIl_227, nIl_228, nIl_229, nIl_230, nIl_231, nIl_232, nIl_233, nIl_413, nIl_1239, nIl_10000]) <;> first | done | rfl | exact congrArg nI (by omega))) (by decide) (by decide)) (hS 0 (by decide)) ?_
      refine q_istore_n hJ dX11_set_47 (q := 48) rfl (by decide) ?_
      refine q_iload_n hJ dX11_set_48 (q := 49) rfl rfl ?_
      refine q_iload_n hJ dX11_set_49 (q := 50) rfl rfl ?_
      refine q_icmp_ne hJ (tgt := 57) dX11_set_50 (q := 53) rfl (by decide) (fun c2 => ?_) (fun c2 => ?_)
      · refine q_aload_n hJ dX11_set_57 (q := 58) rfl rfl (by first | rfl | exact isR_rr _) ?_
        refine q_callV hJ dX11_set_58 (q := 61) rfl (M_remembers A hs h sn kp tx tn I R hFR H) imX11_remembers ln_X11_33 (by first | exact ka317 | exact ka318 | exact ka319 | exact ka320 | exact ka321 | exact ka322) (by decide) rfl rfl rfl rfl (Nat.le_of_ble_eq_true rfl) (by decide) (by decide) rfl rfl (fun rv gv Iv Rv hv => ?_)
        obtain ⟨rfl, rfl, rfl, H1, ho, ho7⟩ := hv
        have hU1 := H1.1.2.1
        have hS1 := H1.1.2.2.1
        refine q_aload_n hJ dX11_set_61 (q := 62) rfl rfl (by first | rfl | exact isR_rr _) ?_
        refine q_getR hJ dX11_set_62 (q := 65) rfl fl_X11_7 rfl (by first | exact ka317 | exact ka318 | exact ka319 | exact ka320 | exact ka321 | exact ka322) (by assumption) rfl ?_
        refine q_sipush hJ (v := 226) dX11_set_65 (q := 68) rfl (by decide) ?_
        refine q_iload_n hJ dX11_set_68 (q := 69) rfl rfl ?_
        refine q_iadd hJ dX11_set_69 (q := 70) rfl ?_
        refine q_iload_n hJ dX11_set_70 (q := 71) rfl rfl ?_
        refine q_iast hJ dX11_set_71 (q := 72) rfl (by first | exact ka317 | exact ka318 | exact ka319 | exact ka320 | exact ka321 | exact ka322) (ixE (j := 0 + 226 + 0) (by ((try simp only [nIl_add, nI_mul, nIl_0, nIl_1, nIl_2, nIl_3, nIl_4, nIl_5, nIl_6, nIl_7, nIl_8, nIl_9, nIl_10, nIl_11, nIl_12, nIl_20, nIl_60, nIl_72, nIl_80, nIl_81, nIl_82, nIl_99, nIl_100, nIl_226, nIl_227, nIl_228, nIl_229, nIl_230, nIl_231, nIl_232, nIl_233, nIl_413, nIl_1239, nIl_10000]) <;> first | done | rfl | exact congrArg nI (by omega))) (by decide) (by decide)) ?_
        refine q_iload_n hJ dX11_set_72 (q := 73) rfl rfl ?_
        refine q_iret hM dX11_set_73 rfl rfl ?_
        refine ⟨iv ((if_neg (show ¬ inR 0 0 1 = 0 by decide)).trans ((if_neg (show ¬ (if (0 : Int32) = 0 then inR v 1 8 else inR v 0 1) = 0 from c1)).trans (if_neg (show ¬ aS A (if (0 : Int32) = 0 then 0 else 1) = v from c2)))).symm, rfl, rfl, fun a ha => by rw [up2_other _ _ _ _ (by omega), ho a (by omega) (by omega)], Or.inl ⟨⟨by decide, c1, c2⟩, ?_⟩⟩
        rw [setE (s := 0) (q := 0) rfl]
        refine H1.sets (hS1.put (up2_self _ _ _ _) (fun i hi => by rw [up2_i (by omega)])) ?_ (fun a ha => up2_other _ _ _ _ ha) (fun i hi => by rw [up2_i (by omega)])
        exact in_18 c1
      · refine q_sipush hJ (v := (-1006)) dX11_set_53 (q := 56) rfl (by decide) ?_
        refine q_iret hM dX11_set_56 rfl rfl ?_
        exact ⟨iv ((if_neg (show ¬ inR 0 0 1 = 0 by decide)).trans ((if_neg (show ¬ (if (0 : Int32) = 0 then inR v 1 8 else inR v 0 1) = 0 from c1)).trans (if_pos (show aS A (if (0 : Int32) = 0 then 0 else 1) = v from c2)))).symm, rfl, rfl, fun _ _ => rfl, Or.inr ⟨fun z => z.2.2 c2, H⟩⟩
    · refine q_sipush hJ (v := (-1002)) dX11_set_33 (q := 36) rfl (by decide) ?_
      refine q_iret hM dX11_set_36 rfl rfl ?_
      exact ⟨iv ((if_neg (show ¬ inR 0 0 1 = 0 by decide)).trans (if_pos (show (if (0 : Int32) = 0 then inR v 1 8 else inR v 0 1) = 0 from c1))).symm, rfl, rfl, fun _ _ => rfl, Or.inr ⟨fun z => z.2.1 c1, H⟩⟩
  · refine q_iload_n hJ dX11_set_0 (q := 1) rfl rfl ?_
    refine q_iconst hJ (v := 0) dX11_set_1 (q := 2) rfl (by decide) ?_
    refine q_iconst hJ (v := 1) dX11_set_2 (q := 3) rfl (by decide) ?_
    refine q_callS hJ dX11_set_3 (q := 6) rfl (M_in 1 0 1 I R) imX11_in ln_X11_25 rfl rfl rfl (Nat.le_of_ble_eq_true rfl) (by decide) (by decide) rfl rfl (fun rv gv Iv Rv hv => ?_)
    obtain ⟨rfl, rfl, rfl, rfl⟩ := hv
    rw [show inR 1 0 1 = 1 from rfl]
    refine q_if_ne hJ (tgt := 13) dX11_set_6 (q := 9) rfl (by decide) (fun _ => ?_) (fun c0 => absurd c0 (by decide))
    refine q_iload_n hJ dX11_set_13 (q := 14) rfl rfl ?_
    refine q_iconst hJ (v := 1) dX11_set_14 (q := 15) rfl (by decide) ?_
    refine q_iload_n hJ dX11_set_15 (q := 16) rfl rfl ?_
    refine q_isub hJ dX11_set_16 (q := 17) rfl ?_
    refine q_iload_n hJ dX11_set_17 (q := 18) rfl rfl ?_
    refine q_if_ne hJ (tgt := 26) dX11_set_18 (q := 21) rfl (by decide) (fun _ => ?_) (fun cs => absurd cs (by decide))
    refine q_iconst hJ (v := 1) dX11_set_26 (q := 27) rfl (by decide) ?_
    rw [show (1 : Int32) - 1 = 0 from rfl]
    refine q_callS hJ dX11_set_27 (q := 30) rfl (M_in v 0 1 I R) imX11_in ln_X11_25 rfl rfl rfl (Nat.le_of_ble_eq_true rfl) (by decide) (by decide) rfl rfl (fun rv gv Iv Rv hv => ?_)
    obtain ⟨rfl, rfl, rfl, rfl⟩ := hv
    refine q_if_ne hJ (tgt := 37) dX11_set_30 (q := 33) rfl (by decide) (fun c1 => ?_) (fun c1 => ?_)
    · refine q_aload_n hJ dX11_set_37 (q := 38) rfl rfl (by first | rfl | exact isR_rr _) ?_
      refine q_getR hJ dX11_set_38 (q := 41) rfl fl_X11_7 rfl (by first | exact ka317 | exact ka318 | exact ka319 | exact ka320 | exact ka321 | exact ka322) (by assumption) rfl ?_
      refine q_sipush hJ (v := 226) dX11_set_41 (q := 44) rfl (by decide) ?_
      refine q_iload_n hJ dX11_set_44 (q := 45) rfl rfl ?_
      refine q_iadd hJ dX11_set_45 (q := 46) rfl ?_
      refine q_iald hJ dX11_set_46 (q := 47) rfl (by first | exact ka317 | exact ka318 | exact ka319 | exact ka320 | exact ka321 | exact ka322) (ixE (j := 0 + 226 + 1) (by ((try simp only [nIl_add, nI_mul, nIl_0, nIl_1, nIl_2, nIl_3, nIl_4, nIl_5, nIl_6, nIl_7, nIl_8, nIl_9, nIl_10, nIl_11, nIl_12, nIl_20, nIl_60, nIl_72, nIl_80, nIl_81, nIl_82, nIl_99, nIl_100, nIl_226, nIl_227, nIl_228, nIl_229, nIl_230, nIl_231, nIl_232, nIl_233, nIl_413, nIl_1239, nIl_10000]) <;> first | done | rfl | exact congrArg nI (by omega))) (by decide) (by decide)) (hS 1 (by decide)) ?_
      refine q_istore_n hJ dX11_set_47 (q := 48) rfl (by decide) ?_
      refine q_iload_n hJ dX11_set_48 (q := 49) rfl rfl ?_
      refine q_iload_n hJ dX11_set_49 (q := 50) rfl rfl ?_
      refine q_icmp_ne hJ (tgt := 57) dX11_set_50 (q := 53) rfl (by decide) (fun c2 => ?_) (fun c2 => ?_)
      · refine q_aload_n hJ dX11_set_57 (q := 58) rfl rfl (by first | rfl | exact isR_rr _) ?_
        refine q_callV hJ dX11_set_58 (q := 61) rfl (M_remembers A hs h sn kp tx tn I R hFR H) imX11_remembers ln_X11_33 (by first | exact ka317 | exact ka318 | exact ka319 | exact ka320 | exact ka321 | exact ka322) (by decide) rfl rfl rfl rfl (Nat.le_of_ble_eq_true rfl) (by decide) (by decide) rfl rfl (fun rv gv Iv Rv hv => ?_)
        obtain ⟨rfl, rfl, rfl, H1, ho, ho7⟩ := hv
        have hU1 := H1.1.2.1
        have hS1 := H1.1.2.2.1
        refine q_aload_n hJ dX11_set_61 (q := 62) rfl rfl (by first | rfl | exact isR_rr _) ?_
        refine q_getR hJ dX11_set_62 (q := 65) rfl fl_X11_7 rfl (by first | exact ka317 | exact ka318 | exact ka319 | exact ka320 | exact ka321 | exact ka322) (by assumption) rfl ?_
        refine q_sipush hJ (v := 226) dX11_set_65 (q := 68) rfl (by decide) ?_
        refine q_iload_n hJ dX11_set_68 (q := 69) rfl rfl ?_
        refine q_iadd hJ dX11_set_69 (q := 70) rfl ?_
        refine q_iload_n hJ dX11_set_70 (q := 71) rfl rfl ?_
        refine q_iast hJ dX11_set_71 (q := 72) rfl (by first | exact ka317 | exact ka318 | exact ka319 | exact ka320 | exact ka321 | exact ka322) (ixE (j := 0 + 226 + 1) (by ((try simp only [nIl_add, nI_mul, nIl_0, nIl_1, nIl_2, nIl_3, nIl_4, nIl_5, nIl_6, nIl_7, nIl_8, nIl_9, nIl_10, nIl_11, nIl_12, nIl_20, nIl_60, nIl_72, nIl_80, nIl_81, nIl_82, nIl_99, nIl_100, nIl_226, nIl_227, nIl_228, nIl_229, nIl_230, nIl_231, nIl_232, nIl_233, nIl_413, nIl_1239, nIl_10000]) <;> first | done | rfl | exact congrArg nI (by omega))) (by decide) (by decide)) ?_
        refine q_iload_n hJ dX11_set_72 (q := 73) rfl rfl ?_
        refine q_iret hM dX11_set_73 rfl rfl ?_
        refine ⟨iv ((if_neg (show ¬ inR 1 0 1 = 0 by decide)).trans ((if_neg (show ¬ (if (1 : Int32) = 0 then inR v 1 8 else inR v 0 1) = 0 from c1)).trans (if_neg (show ¬ aS A (if (1 : Int32) = 0 then 0 else 1) = v from c2)))).symm, rfl, rfl, fun a ha => by rw [up2_other _ _ _ _ (by omega), ho a (by omega) (by omega)], Or.inl ⟨⟨by decide, c1, c2⟩, ?_⟩⟩
        rw [setE (s := 1) (q := 1) rfl]
        refine H1.sets (hS1.put (up2_self _ _ _ _) (fun i hi => by rw [up2_i (by omega)])) ?_ (fun a ha => up2_other _ _ _ _ ha) (fun i hi => by rw [up2_i (by omega)])
        exact H.2.1.2.2
      · refine q_sipush hJ (v := (-1006)) dX11_set_53 (q := 56) rfl (by decide) ?_
        refine q_iret hM dX11_set_56 rfl rfl ?_
        exact ⟨iv ((if_neg (show ¬ inR 1 0 1 = 0 by decide)).trans ((if_neg (show ¬ (if (1 : Int32) = 0 then inR v 1 8 else inR v 0 1) = 0 from c1)).trans (if_pos (show aS A (if (1 : Int32) = 0 then 0 else 1) = v from c2)))).symm, rfl, rfl, fun _ _ => rfl, Or.inr ⟨fun z => z.2.2 c2, H⟩⟩
    · refine q_sipush hJ (v := (-1002)) dX11_set_33 (q := 36) rfl (by decide) ?_
      refine q_iret hM dX11_set_36 rfl rfl ?_
      exact ⟨iv ((if_neg (show ¬ inR 1 0 1 = 0 by decide)).trans (if_pos (show (if (1 : Int32) = 0 then inR v 1 8 else inR v 0 1) = 0 from c1))).symm, rfl, rfl, fun _ _ => rfl, Or.inr ⟨fun z => z.2.1 c1, H⟩⟩

theorem MOD.text {I I' : MI} {A : AS} {hs : Nat → AS} {h : Nat} {sn : AS} {kp : Bool} {tx tx' : Nat → Int32} {tn tn' : Nat} (H : MOD I A hs h sn kp tx tn) (h0 : I' 317 6 = nI tn') (hn : tn' ≤ 80) (ht : ∀ i, i < tn' → I' 321 i = tx' i) (h1 : ∀ a, a ≠ 317 → a ≠ 321 → I' a = I a) (h2 : ∀ k, k ≠ 6 → I' 317 k = I 317 k) : MOD I' A hs h sn kp tx' tn' := by
  obtain ⟨a, b, ⟨c1, c2, c3⟩, ⟨d1, d2⟩, e1, e2, e3⟩ := H
  exact ⟨by rw [h1 318 (by decide) (by decide)]; exact a, b, ⟨by rw [h2 2 (by decide)]; exact c1, c2, by rw [h1 319 (by decide) (by decide)]; exact c3⟩, ⟨by rw [h2 4 (by decide)]; exact d1, by rw [h1 320 (by decide) (by decide)]; exact d2⟩, h0, hn, ht⟩
set_option maxRecDepth 100000 in
set_option maxHeartbeats 400000 in
theorem M_type (c : Int32) (A : AS) (hs : Nat → AS) (h : Nat) (sn : AS) (kp : Bool) (tx : Nat → Int32) (tn : Nat) (I : MI) (R : MR) (hFR : FR R) (H : MOD I A hs h sn kp tx tn) : Sp 0 0 0 mX11_type [.ref 317, .int c] g0 I R (MoP (if tn < 80 then nI (tn + 1) else -1003) I R (fun I' => MOD I' A hs h sn kp (if tn < 80 then fun i => if i = tn then c else tx i else tx) (if tn < 80 then tn + 1 else tn))) := by
  have hm0 := hFR.2.2.2.2.2.1
  have hm1 := hFR.2.2.2.2.2.2.1
  have hm3 := hFR.2.2.2.2.2.2.2.1
  have hm5 := hFR.2.2.2.2.2.2.2.2.1
  have hm7 := hFR.2.2.2.2.2.2.2.2.2
  have e1 := H.2.2.2.2.1
  have e2 := H.2.2.2.2.2.1
  have e3 := H.2.2.2.2.2.2
  refine Sp.on (by decide +kernel) rfl rfl (fun J hM => ?_)
  have hJ := hM.ok
  refine q_aload_n hJ dX11_type_0 (q := 1) rfl rfl (by first | rfl | exact isR_rr _) ?_
  refine q_getI hJ dX11_type_1 (q := 4) rfl fl_X11_161 rfl (by first | exact ka317 | exact ka318 | exact ka319 | exact ka320 | exact ka321 | exact ka322) e1 ?_
  refine q_bipush hJ (v := 80) dX11_type_4 (q := 6) rfl (by decide) ?_
  refine q_icmp_ne hJ (tgt := 13) dX11_type_6 (q := 9) rfl (by decide) (fun c1 => ?_) (fun c1 => ?_)
  · have h80 : tn < 80 := by
        rcases Nat.lt_or_ge tn 80 with z | z
        · exact z
        · exact absurd (show nI tn = 80 by rw [show tn = 80 by omega]; rfl) c1
    refine q_aload_n hJ dX11_type_13 (q := 14) rfl rfl (by first | rfl | exact isR_rr _) ?_
    refine q_getR hJ dX11_type_14 (q := 17) rfl fl_X11_19 rfl (by first | exact ka317 | exact ka318 | exact ka319 | exact ka320 | exact ka321 | exact ka322) (by assumption) rfl ?_
    refine q_aload_n hJ dX11_type_17 (q := 18) rfl rfl (by first | rfl | exact isR_rr _) ?_
    refine q_getI hJ dX11_type_18 (q := 21) rfl fl_X11_161 rfl (by first | exact ka317 | exact ka318 | exact ka319 | exact ka320 | exact ka321 | exact ka322) e1 ?_
    refine q_iload_n hJ dX11_type_21 (q := 22) rfl rfl ?_
    refine q_iast hJ dX11_type_22 (q := 23) rfl (by first | exact ka317 | exact ka318 | exact ka319 | exact ka320 | exact ka321 | exact ka322) (ixE (j := tn) (by ((try simp only [nIl_add, nI_mul, nIl_0, nIl_1, nIl_2, nIl_3, nIl_4, nIl_5, nIl_6, nIl_7, nIl_8, nIl_9, nIl_10, nIl_11, nIl_12, nIl_20, nIl_60, nIl_72, nIl_80, nIl_81, nIl_82, nIl_99, nIl_100, nIl_226, nIl_227, nIl_228, nIl_229, nIl_230, nIl_231, nIl_232, nIl_233, nIl_413, nIl_1239, nIl_10000]) <;> first | done | rfl | exact congrArg nI (by omega))) (by omega) (by decide)) ?_
    refine q_aload_n hJ dX11_type_23 (q := 24) rfl rfl (by first | rfl | exact isR_rr _) ?_
    refine q_dup hJ dX11_type_24 (q := 25) rfl rfl ?_
    refine q_getI hJ dX11_type_25 (q := 28) rfl fl_X11_161 rfl (by first | exact ka317 | exact ka318 | exact ka319 | exact ka320 | exact ka321 | exact ka322) (show _ = nI tn by rw [up2_i (by omega)]; exact e1) ?_
    refine q_iconst hJ (v := 1) dX11_type_28 (q := 29) rfl (by decide) ?_
    refine q_iadd hJ dX11_type_29 (q := 30) rfl ?_
    rw [show nI tn + 1 = nI (tn + 1) from nI_1 _]
    refine q_putI hJ dX11_type_30 (q := 33) rfl fl_X11_161 rfl rfl (by first | exact ka317 | exact ka318 | exact ka319 | exact ka320 | exact ka321 | exact ka322) rfl rfl ?_
    refine q_aload_n hJ dX11_type_33 (q := 34) rfl rfl (by first | rfl | exact isR_rr _) ?_
    refine q_getI hJ dX11_type_34 (q := 37) rfl fl_X11_161 rfl (by first | exact ka317 | exact ka318 | exact ka319 | exact ka320 | exact ka321 | exact ka322) (up2_self _ _ _ _) ?_
    refine q_iret hM dX11_type_37 rfl rfl ?_
    refine ⟨iv (if_pos h80).symm, rfl, rfl, fun a ha => by rw [up2_other _ _ _ _ (by omega), up2_other _ _ _ _ (by omega)], ?_⟩
    show MOD _ A hs h sn kp (if tn < 80 then fun i => if i = tn then c else tx i else tx) (if tn < 80 then tn + 1 else tn)
    rw [if_pos h80, if_pos h80]
    refine H.text (up2_self _ _ _ _) (by omega) (fun i hi => ?_) (fun a q1 q2 => by rw [up2_other _ _ _ _ q1, up2_other _ _ _ _ q2]) (fun k hk => by rw [up2_slot _ _ _ _ hk, up2_i (by omega)])
    show _ = if i = tn then c else tx i
    by_cases e : i = tn
    · rw [if_pos e, e, up2_i (by omega), up2_self]
    · rw [if_neg e, up2_i (by omega), up2_i (by omega)]; exact e3 i (by omega)
  · refine q_sipush hJ (v := (-1003)) dX11_type_9 (q := 12) rfl (by decide) ?_
    refine q_iret hM dX11_type_12 rfl rfl ?_
    have h80 : ¬ tn < 80 := fun z => by have := (nI_eq (a := tn) (b := 80) (by omega) (by decide)).mp c1; omega
    exact ⟨iv (if_neg h80).symm, rfl, rfl, fun _ _ => rfl, by show MOD _ A hs h sn kp (if tn < 80 then fun i => if i = tn then c else tx i else tx) (if tn < 80 then tn + 1 else tn); rw [if_neg h80, if_neg h80]; exact H⟩

set_option maxRecDepth 100000 in
set_option maxHeartbeats 400000 in
theorem M_clear (A : AS) (hs : Nat → AS) (h : Nat) (sn : AS) (kp : Bool) (tx : Nat → Int32) (tn : Nat) (I : MI) (R : MR) (hFR : FR R) (H : MOD I A hs h sn kp tx tn) : Sp 0 0 0 mX11_clearText [.ref 317] g0 I R (MoP (nI tn) I R (fun I' => MOD I' A hs h sn kp tx 0)) := by
  have hm0 := hFR.2.2.2.2.2.1
  have hm1 := hFR.2.2.2.2.2.2.1
  have hm3 := hFR.2.2.2.2.2.2.2.1
  have hm5 := hFR.2.2.2.2.2.2.2.2.1
  have hm7 := hFR.2.2.2.2.2.2.2.2.2
  have e1 := H.2.2.2.2.1
  have e2 := H.2.2.2.2.2.1
  have e3 := H.2.2.2.2.2.2
  refine Sp.on (by decide +kernel) rfl rfl (fun J hM => ?_)
  have hJ := hM.ok
  refine q_aload_n hJ dX11_clearText_0 (q := 1) rfl rfl (by first | rfl | exact isR_rr _) ?_
  refine q_getI hJ dX11_clearText_1 (q := 4) rfl fl_X11_161 rfl (by first | exact ka317 | exact ka318 | exact ka319 | exact ka320 | exact ka321 | exact ka322) e1 ?_
  refine q_istore_n hJ dX11_clearText_4 (q := 5) rfl (by decide) ?_
  refine q_aload_n hJ dX11_clearText_5 (q := 6) rfl rfl (by first | rfl | exact isR_rr _) ?_
  refine q_iconst hJ (v := 0) dX11_clearText_6 (q := 7) rfl (by decide) ?_
  refine q_putI hJ dX11_clearText_7 (q := 10) rfl fl_X11_161 rfl rfl (by first | exact ka317 | exact ka318 | exact ka319 | exact ka320 | exact ka321 | exact ka322) rfl rfl ?_
  refine q_iload_n hJ dX11_clearText_10 (q := 11) rfl rfl ?_
  refine q_iret hM dX11_clearText_11 rfl rfl ?_
  exact ⟨rfl, rfl, rfl, fun a ha => up2_other _ _ _ _ (by omega), H.text (up2_self _ _ _ _) (Nat.zero_le _) (fun i hi => absurd hi (Nat.not_lt_zero _)) (fun a q1 _ => up2_other _ _ _ _ q1) (fun k hk => up2_slot _ _ _ _ hk)⟩

set_option maxRecDepth 100000 in
set_option maxHeartbeats 400000 in
theorem M_undo (A : AS) (hs : Nat → AS) (h : Nat) (sn : AS) (kp : Bool) (tx : Nat → Int32) (tn : Nat) (I : MI) (R : MR) (hFR : FR R) (H : MOD I A hs h sn kp tx tn) : Sp 0 0 0 mX11_undo [.ref 317] g0 I R (MoP (if h = 0 then -1006 else nI (h - 1)) I R (fun I' => MOD I' (if h = 0 then A else hs (h - 1)) hs (h - 1) sn kp tx tn)) := by
  have hm0 := hFR.2.2.2.2.2.1
  have hm1 := hFR.2.2.2.2.2.2.1
  have hm3 := hFR.2.2.2.2.2.2.2.1
  have hm5 := hFR.2.2.2.2.2.2.2.2.1
  have hm7 := hFR.2.2.2.2.2.2.2.2.2
  have hh4 := H.2.2.1.2.1
  refine Sp.on (by decide +kernel) rfl rfl (fun J hM => ?_)
  have hJ := hM.ok
  have loop : ∀ (q : Nat), q < 4 → ∀ I1 : MI, I1 317 2 = nI q → (MoP (if h = 0 then -1006 else nI (h - 1)) I R (fun I' => MOD I' (if h = 0 then A else hs (h - 1)) hs (h - 1) sn kp tx tn)) (some (.int (nI q))) g0 (cpw I1 319 (413 * q) 318 0 413) R → ∀ (k j : Nat), k + j = 413 → J 0 0 23 [some (.ref 317), some (.int (nI j))] [] g0 (cpw I1 319 (413 * q) 318 0 j) R := by
    intro q hq4 I1 hq hF k
    induction k with
    | zero =>
      intro j hm
      refine q_iload_n hJ dX11_undo_23 (q := 24) rfl rfl ?_
      refine q_sipush hJ (v := 413) dX11_undo_24 (q := 27) rfl (by decide) ?_
      refine q_icmp_ge hJ (tgt := 57) dX11_undo_27 (q := 30) rfl (by decide) (fun _ => ?_) (fun c5 => absurd ((nI_leI (a := 413) (b := j) (by decide) (by omega)).mpr (by omega)) c5)
      refine q_aload_n hJ dX11_undo_57 (q := 58) rfl rfl (by first | rfl | exact isR_rr _) ?_
      refine q_getI hJ dX11_undo_58 (q := 61) rfl fl_X11_29 rfl (by first | exact ka317 | exact ka318 | exact ka319 | exact ka320 | exact ka321 | exact ka322) (show _ = nI q by rw [cpw_o (by decide)]; exact hq) ?_
      refine q_iret hM dX11_undo_61 rfl rfl ?_
      have ej : j = 413 := by omega
      subst ej
      exact hF
    | succ k ih =>
      intro j hm
      refine q_iload_n hJ dX11_undo_23 (q := 24) rfl rfl ?_
      refine q_sipush hJ (v := 413) dX11_undo_24 (q := 27) rfl (by decide) ?_
      refine q_icmp_ge hJ (tgt := 57) dX11_undo_27 (q := 30) rfl (by decide) (fun c5 => absurd ((nI_leI (a := 413) (b := j) (by decide) (by omega)).mp c5) (by omega)) (fun _ => ?_)
      refine q_aload_n hJ dX11_undo_30 (q := 31) rfl rfl (by first | rfl | exact isR_rr _) ?_
      refine q_getR hJ dX11_undo_31 (q := 34) rfl fl_X11_7 rfl (by first | exact ka317 | exact ka318 | exact ka319 | exact ka320 | exact ka321 | exact ka322) (by assumption) rfl ?_
      refine q_iload_n hJ dX11_undo_34 (q := 35) rfl rfl ?_
      refine q_aload_n hJ dX11_undo_35 (q := 36) rfl rfl (by first | rfl | exact isR_rr _) ?_
      refine q_getR hJ dX11_undo_36 (q := 39) rfl fl_X11_13 rfl (by first | exact ka317 | exact ka318 | exact ka319 | exact ka320 | exact ka321 | exact ka322) (by assumption) rfl ?_
      refine q_sipush hJ (v := 413) dX11_undo_39 (q := 42) rfl (by decide) ?_
      refine q_aload_n hJ dX11_undo_42 (q := 43) rfl rfl (by first | rfl | exact isR_rr _) ?_
      refine q_getI hJ dX11_undo_43 (q := 46) rfl fl_X11_29 rfl (by first | exact ka317 | exact ka318 | exact ka319 | exact ka320 | exact ka321 | exact ka322) (show _ = nI q by rw [cpw_o (by decide)]; exact hq) ?_
      refine q_imul hJ dX11_undo_46 (q := 47) rfl ?_
      refine q_iload_n hJ dX11_undo_47 (q := 48) rfl rfl ?_
      refine q_iadd hJ dX11_undo_48 (q := 49) rfl ?_
      refine q_iald hJ dX11_undo_49 (q := 50) rfl (by first | exact ka317 | exact ka318 | exact ka319 | exact ka320 | exact ka321 | exact ka322) (ixE (j := 413 * q + j) (by ((try simp only [nIl_add, nI_mul, nIl_0, nIl_1, nIl_2, nIl_3, nIl_4, nIl_5, nIl_6, nIl_7, nIl_8, nIl_9, nIl_10, nIl_11, nIl_12, nIl_20, nIl_60, nIl_72, nIl_80, nIl_81, nIl_82, nIl_99, nIl_100, nIl_226, nIl_227, nIl_228, nIl_229, nIl_230, nIl_231, nIl_232, nIl_233, nIl_413, nIl_1239, nIl_10000]) <;> first | done | rfl | exact congrArg nI (by omega))) (by omega) (by decide)) (show _ = I1 319 (413 * q + j) by rw [cpw_o (by decide)]) ?_
      refine q_iast hJ dX11_undo_50 (q := 51) rfl (by first | exact ka317 | exact ka318 | exact ka319 | exact ka320 | exact ka321 | exact ka322) (ixE (j := 0 + j) (by ((try simp only [nIl_add, nI_mul, nIl_0, nIl_1, nIl_2, nIl_3, nIl_4, nIl_5, nIl_6, nIl_7, nIl_8, nIl_9, nIl_10, nIl_11, nIl_12, nIl_20, nIl_60, nIl_72, nIl_80, nIl_81, nIl_82, nIl_99, nIl_100, nIl_226, nIl_227, nIl_228, nIl_229, nIl_230, nIl_231, nIl_232, nIl_233, nIl_413, nIl_1239, nIl_10000]) <;> first | done | rfl | exact congrArg nI (by omega))) (by omega) (by decide)) ?_
      refine q_iinc hJ dX11_undo_51 (q := 54) rfl (by decide) rfl (nI_1 j) ?_
      refine q_goto hJ (tgt := 23) dX11_undo_54 (by decide) ?_
      rw [cpw_step]
      exact ih (j + 1) (by omega)
  refine q_aload_n hJ dX11_undo_0 (q := 1) rfl rfl (by first | rfl | exact isR_rr _) ?_
  refine q_getI hJ dX11_undo_1 (q := 4) rfl fl_X11_29 rfl (by first | exact ka317 | exact ka318 | exact ka319 | exact ka320 | exact ka321 | exact ka322) H.2.2.1.1 ?_
  refine q_if_ne hJ (tgt := 11) dX11_undo_4 (q := 7) rfl (by decide) (fun c1 => ?_) (fun c1 => ?_)
  · refine q_aload_n hJ dX11_undo_11 (q := 12) rfl rfl (by first | rfl | exact isR_rr _) ?_
    refine q_dup hJ dX11_undo_12 (q := 13) rfl rfl ?_
    have h0 : ¬ h = 0 := fun z => c1 (by rw [z]; rfl)
    refine q_getI hJ dX11_undo_13 (q := 16) rfl fl_X11_29 rfl (by first | exact ka317 | exact ka318 | exact ka319 | exact ka320 | exact ka321 | exact ka322) H.2.2.1.1 ?_
    refine q_iconst hJ (v := 1) dX11_undo_16 (q := 17) rfl (by decide) ?_
    refine q_isub hJ dX11_undo_17 (q := 18) rfl ?_
    rw [show nI h - 1 = nI (h - 1) from nI_sub (a := h) (b := 1) (by omega)]
    refine q_putI hJ dX11_undo_18 (q := 21) rfl fl_X11_29 rfl rfl (by first | exact ka317 | exact ka318 | exact ka319 | exact ka320 | exact ka321 | exact ka322) rfl rfl ?_
    refine q_iconst hJ (v := 0) dX11_undo_21 (q := 22) rfl (by decide) ?_
    refine q_istore_n hJ dX11_undo_22 (q := 23) rfl (by decide) ?_
    have h23 := loop (h - 1) (by omega) (up2 I 317 2 (nI (h - 1))) (up2_self _ _ _ _) ?_ 413 0 rfl
    · rw [cpw_0] at h23; exact h23
    · refine ⟨iv (if_neg h0).symm, rfl, rfl, fun a ha => by rw [cpw_o (by omega), up2_other _ _ _ _ (by omega)], ?_⟩
      show MOD _ (if h = 0 then A else hs (h - 1)) hs (h - 1) sn kp tx tn
      rw [if_neg h0]
      obtain ⟨_, _, ⟨c1, c2, c3⟩, ⟨d1, d2⟩, e1, e2, e3⟩ := H
      obtain ⟨m1, m2⟩ := c3 (h - 1) (by omega)
      refine ⟨MS.at (M := I 319) m1 (fun i hi x y hx hy => by rw [hy, cpw_in hi, hx, up2_other _ _ _ _ (by decide)]), m2, ⟨by rw [cpw_o (by decide), up2_self], by omega, fun j hj => ?_⟩, ⟨by rw [cpw_o (by decide), up2_i (by omega)]; exact d1, by rw [cpw_o (by decide), up2_other _ _ _ _ (by decide)]; exact d2⟩, by rw [cpw_o (by decide), up2_i (by omega)]; exact e1, e2, by rw [cpw_o (by decide), up2_other _ _ _ _ (by decide)]; exact e3⟩
      rw [cpw_o (by decide), up2_other _ _ _ _ (by decide)]; exact c3 j (by omega)
  · refine q_sipush hJ (v := (-1006)) dX11_undo_7 (q := 10) rfl (by decide) ?_
    refine q_iret hM dX11_undo_10 rfl rfl ?_
    have h0 : h = 0 := (nI_eq (a := h) (b := 0) (by omega) (by decide)).mp c1
    subst h0
    exact ⟨rfl, rfl, rfl, fun _ _ => rfl, H⟩

set_option maxRecDepth 100000 in
set_option maxHeartbeats 400000 in
theorem M_keep (A : AS) (hs : Nat → AS) (h : Nat) (sn : AS) (kp : Bool) (tx : Nat → Int32) (tn : Nat) (I : MI) (R : MR) (hFR : FR R) (H : MOD I A hs h sn kp tx tn) : Sp 0 0 0 mX11_keep [.ref 317] g0 I R (MoP (nI (aN A)) I R (fun I' => MOD I' A hs h A true tx tn)) := by
  have hm0 := hFR.2.2.2.2.2.1
  have hm1 := hFR.2.2.2.2.2.2.1
  have hm3 := hFR.2.2.2.2.2.2.2.1
  have hm5 := hFR.2.2.2.2.2.2.2.2.1
  have hm7 := hFR.2.2.2.2.2.2.2.2.2
  refine Sp.on (by decide +kernel) rfl rfl (fun J hM => ?_)
  have hJ := hM.ok
  have loop : ∀ (k j : Nat), k + j = 413 → J 0 0 2 [some (.ref 317), some (.int (nI j))] [] g0 (cpw I 318 0 320 0 j) R := by
    intro k
    induction k with
    | zero =>
      intro j hm
      refine q_iload_n hJ dX11_keep_2 (q := 3) rfl rfl ?_
      refine q_sipush hJ (v := 413) dX11_keep_3 (q := 6) rfl (by decide) ?_
      refine q_icmp_ge hJ (tgt := 27) dX11_keep_6 (q := 9) rfl (by decide) (fun _ => ?_) (fun c5 => absurd ((nI_leI (a := 413) (b := j) (by decide) (by omega)).mpr (by omega)) c5)
      refine q_aload_n hJ dX11_keep_27 (q := 28) rfl rfl (by first | rfl | exact isR_rr _) ?_
      refine q_iconst hJ (v := 1) dX11_keep_28 (q := 29) rfl (by decide) ?_
      refine q_putI hJ dX11_keep_29 (q := 32) rfl fl_X11_201 rfl rfl (by first | exact ka317 | exact ka318 | exact ka319 | exact ka320 | exact ka321 | exact ka322) (by decide) (by decide) ?_
      refine q_aload_n hJ dX11_keep_32 (q := 33) rfl rfl (by first | rfl | exact isR_rr _) ?_
      refine q_getR hJ dX11_keep_33 (q := 36) rfl fl_X11_7 rfl (by first | exact ka317 | exact ka318 | exact ka319 | exact ka320 | exact ka321 | exact ka322) (by assumption) rfl ?_
      refine q_iconst hJ (v := 0) dX11_keep_36 (q := 37) rfl (by decide) ?_
      refine q_iald hJ dX11_keep_37 (q := 38) rfl (by first | exact ka317 | exact ka318 | exact ka319 | exact ka320 | exact ka321 | exact ka322) (ixE (j := 0 + 0) (by ((try simp only [nIl_add, nI_mul, nIl_0, nIl_1, nIl_2, nIl_3, nIl_4, nIl_5, nIl_6, nIl_7, nIl_8, nIl_9, nIl_10, nIl_11, nIl_12, nIl_20, nIl_60, nIl_72, nIl_80, nIl_81, nIl_82, nIl_99, nIl_100, nIl_226, nIl_227, nIl_228, nIl_229, nIl_230, nIl_231, nIl_232, nIl_233, nIl_413, nIl_1239, nIl_10000]) <;> first | done | rfl | exact congrArg nI (by omega))) (by decide) (by decide)) (show _ = nI (aN A) by rw [up2_i (by omega), cpw_o (by decide)]; exact H.1.1.1) ?_
      refine q_iret hM dX11_keep_38 rfl rfl ?_
      have ej : j = 413 := by omega
      subst ej
      refine ⟨rfl, rfl, rfl, fun a ha => by rw [up2_other _ _ _ _ (by omega), cpw_o (by omega)], ?_⟩
      obtain ⟨a, b, ⟨c1, c2, c3⟩, _, e1, e2, e3⟩ := H
      exact ⟨by rw [up2_other _ _ _ _ (by decide), cpw_o (by decide)]; exact a, b, ⟨by rw [up2_i (by omega), cpw_o (by decide)]; exact c1, c2, by rw [up2_other _ _ _ _ (by decide), cpw_o (by decide)]; exact c3⟩, ⟨by rw [up2_self]; rfl, fun _ => ⟨MS.at (M := I 318) a (fun i hi x y hx hy => by rw [up2_other _ _ _ _ (by decide), hy, cpw_in hi, hx]), b⟩⟩, by rw [up2_i (by omega), cpw_o (by decide)]; exact e1, e2, by rw [up2_other _ _ _ _ (by decide), cpw_o (by decide)]; exact e3⟩
    | succ k ih =>
      intro j hm
      refine q_iload_n hJ dX11_keep_2 (q := 3) rfl rfl ?_
      refine q_sipush hJ (v := 413) dX11_keep_3 (q := 6) rfl (by decide) ?_
      refine q_icmp_ge hJ (tgt := 27) dX11_keep_6 (q := 9) rfl (by decide) (fun c5 => absurd ((nI_leI (a := 413) (b := j) (by decide) (by omega)).mp c5) (by omega)) (fun _ => ?_)
      refine q_aload_n hJ dX11_keep_9 (q := 10) rfl rfl (by first | rfl | exact isR_rr _) ?_
      refine q_getR hJ dX11_keep_10 (q := 13) rfl fl_X11_16 rfl (by first | exact ka317 | exact ka318 | exact ka319 | exact ka320 | exact ka321 | exact ka322) (by assumption) rfl ?_
      refine q_iload_n hJ dX11_keep_13 (q := 14) rfl rfl ?_
      refine q_aload_n hJ dX11_keep_14 (q := 15) rfl rfl (by first | rfl | exact isR_rr _) ?_
      refine q_getR hJ dX11_keep_15 (q := 18) rfl fl_X11_7 rfl (by first | exact ka317 | exact ka318 | exact ka319 | exact ka320 | exact ka321 | exact ka322) (by assumption) rfl ?_
      refine q_iload_n hJ dX11_keep_18 (q := 19) rfl rfl ?_
      refine q_iald hJ dX11_keep_19 (q := 20) rfl (by first | exact ka317 | exact ka318 | exact ka319 | exact ka320 | exact ka321 | exact ka322) (ixE (j := j) (by ((try simp only [nIl_add, nI_mul, nIl_0, nIl_1, nIl_2, nIl_3, nIl_4, nIl_5, nIl_6, nIl_7, nIl_8, nIl_9, nIl_10, nIl_11, nIl_12, nIl_20, nIl_60, nIl_72, nIl_80, nIl_81, nIl_82, nIl_99, nIl_100, nIl_226, nIl_227, nIl_228, nIl_229, nIl_230, nIl_231, nIl_232, nIl_233, nIl_413, nIl_1239, nIl_10000]) <;> first | done | rfl | exact congrArg nI (by omega))) (by omega) (by decide)) (show _ = I 318 (0 + j) by rw [cpw_o (by decide), Nat.zero_add]) ?_
      refine q_iast hJ dX11_keep_20 (q := 21) rfl (by first | exact ka317 | exact ka318 | exact ka319 | exact ka320 | exact ka321 | exact ka322) (ixE (j := 0 + j) (by ((try simp only [nIl_add, nI_mul, nIl_0, nIl_1, nIl_2, nIl_3, nIl_4, nIl_5, nIl_6, nIl_7, nIl_8, nIl_9, nIl_10, nIl_11, nIl_12, nIl_20, nIl_60, nIl_72, nIl_80, nIl_81, nIl_82, nIl_99, nIl_100, nIl_226, nIl_227, nIl_228, nIl_229, nIl_230, nIl_231, nIl_232, nIl_233, nIl_413, nIl_1239, nIl_10000]) <;> first | done | rfl | exact congrArg nI (by omega))) (by omega) (by decide)) ?_
      refine q_iinc hJ dX11_keep_21 (q := 24) rfl (by decide) rfl (nI_1 j) ?_
      refine q_goto hJ (tgt := 2) dX11_keep_24 (by decide) ?_
      rw [cpw_step (a := 318) (x := 0)]
      exact ih (j + 1) (by omega)
  refine q_iconst hJ (v := 0) dX11_keep_0 (q := 1) rfl (by decide) ?_
  refine q_istore_n hJ dX11_keep_1 (q := 2) rfl (by decide) ?_
  have h2 := loop 413 0 rfl
  rw [cpw_0] at h2
  exact h2

theorem cpw_eq {I : MI} {a x b y n j : Nat} (h1 : y ≤ j) (h2 : j < y + n) : cpw I a x b y n b j = I a (x + (j - y)) := if_pos ⟨rfl, h1, h2⟩
set_option maxRecDepth 100000 in
set_option maxHeartbeats 400000 in
theorem M_restore (A : AS) (hs : Nat → AS) (h : Nat) (sn : AS) (kp : Bool) (tx : Nat → Int32) (tn : Nat) (I : MI) (R : MR) (hFR : FR R) (H : MOD I A hs h sn kp tx tn) : Sp 1 0 0 mX11_restore [.ref 317] g0 I R (MoP (if kp = true then nI (aN sn) else -1006) I R (fun I' => MOD I' (if kp = true then sn else A) (if kp = true then pushH hs h A else hs) (if kp = true then pushN h else h) sn kp tx tn)) := by
  have hm0 := hFR.2.2.2.2.2.1
  have hm1 := hFR.2.2.2.2.2.2.1
  have hm3 := hFR.2.2.2.2.2.2.2.1
  have hm5 := hFR.2.2.2.2.2.2.2.2.1
  have hm7 := hFR.2.2.2.2.2.2.2.2.2
  refine Sp.on (by decide +kernel) rfl rfl (fun J hM => ?_)
  have hJ := hM.ok
  have loop : ∀ I1 : MI, I1 320 (0 + 0) = nI (aN sn) → (MoP (if kp = true then nI (aN sn) else -1006) I R (fun I' => MOD I' (if kp = true then sn else A) (if kp = true then pushH hs h A else hs) (if kp = true then pushN h else h) sn kp tx tn)) (some (.int (nI (aN sn)))) g0 (cpw I1 320 0 318 0 413) R → ∀ (k j : Nat), k + j = 413 → J 0 0 17 [some (.ref 317), some (.int (nI j))] [] g0 (cpw I1 320 0 318 0 j) R := by
    intro I1 hsn hF k
    induction k with
    | zero =>
      intro j hm
      refine q_iload_n hJ dX11_restore_17 (q := 18) rfl rfl ?_
      refine q_sipush hJ (v := 413) dX11_restore_18 (q := 21) rfl (by decide) ?_
      refine q_icmp_ge hJ (tgt := 42) dX11_restore_21 (q := 24) rfl (by decide) (fun _ => ?_) (fun c5 => absurd ((nI_leI (a := 413) (b := j) (by decide) (by omega)).mpr (by omega)) c5)
      refine q_aload_n hJ dX11_restore_42 (q := 43) rfl rfl (by first | rfl | exact isR_rr _) ?_
      refine q_getR hJ dX11_restore_43 (q := 46) rfl fl_X11_7 rfl (by first | exact ka317 | exact ka318 | exact ka319 | exact ka320 | exact ka321 | exact ka322) (by assumption) rfl ?_
      refine q_iconst hJ (v := 0) dX11_restore_46 (q := 47) rfl (by decide) ?_
      refine q_iald hJ dX11_restore_47 (q := 48) rfl (by first | exact ka317 | exact ka318 | exact ka319 | exact ka320 | exact ka321 | exact ka322) (ixE (j := 0 + 0) (by ((try simp only [nIl_add, nI_mul, nIl_0, nIl_1, nIl_2, nIl_3, nIl_4, nIl_5, nIl_6, nIl_7, nIl_8, nIl_9, nIl_10, nIl_11, nIl_12, nIl_20, nIl_60, nIl_72, nIl_80, nIl_81, nIl_82, nIl_99, nIl_100, nIl_226, nIl_227, nIl_228, nIl_229, nIl_230, nIl_231, nIl_232, nIl_233, nIl_413, nIl_1239, nIl_10000]) <;> first | done | rfl | exact congrArg nI (by omega))) (by decide) (by decide)) (show _ = nI (aN sn) by rw [show j = 413 by omega, cpw_eq (by omega) (by omega)]; exact hsn) ?_
      refine q_iret hM dX11_restore_48 rfl rfl ?_
      have ej : j = 413 := by omega
      subst ej
      exact hF
    | succ k ih =>
      intro j hm
      refine q_iload_n hJ dX11_restore_17 (q := 18) rfl rfl ?_
      refine q_sipush hJ (v := 413) dX11_restore_18 (q := 21) rfl (by decide) ?_
      refine q_icmp_ge hJ (tgt := 42) dX11_restore_21 (q := 24) rfl (by decide) (fun c5 => absurd ((nI_leI (a := 413) (b := j) (by decide) (by omega)).mp c5) (by omega)) (fun _ => ?_)
      refine q_aload_n hJ dX11_restore_24 (q := 25) rfl rfl (by first | rfl | exact isR_rr _) ?_
      refine q_getR hJ dX11_restore_25 (q := 28) rfl fl_X11_7 rfl (by first | exact ka317 | exact ka318 | exact ka319 | exact ka320 | exact ka321 | exact ka322) (by assumption) rfl ?_
      refine q_iload_n hJ dX11_restore_28 (q := 29) rfl rfl ?_
      refine q_aload_n hJ dX11_restore_29 (q := 30) rfl rfl (by first | rfl | exact isR_rr _) ?_
      refine q_getR hJ dX11_restore_30 (q := 33) rfl fl_X11_16 rfl (by first | exact ka317 | exact ka318 | exact ka319 | exact ka320 | exact ka321 | exact ka322) (by assumption) rfl ?_
      refine q_iload_n hJ dX11_restore_33 (q := 34) rfl rfl ?_
      refine q_iald hJ dX11_restore_34 (q := 35) rfl (by first | exact ka317 | exact ka318 | exact ka319 | exact ka320 | exact ka321 | exact ka322) (ixE (j := j) (by ((try simp only [nIl_add, nI_mul, nIl_0, nIl_1, nIl_2, nIl_3, nIl_4, nIl_5, nIl_6, nIl_7, nIl_8, nIl_9, nIl_10, nIl_11, nIl_12, nIl_20, nIl_60, nIl_72, nIl_80, nIl_81, nIl_82, nIl_99, nIl_100, nIl_226, nIl_227, nIl_228, nIl_229, nIl_230, nIl_231, nIl_232, nIl_233, nIl_413, nIl_1239, nIl_10000]) <;> first | done | rfl | exact congrArg nI (by omega))) (by omega) (by decide)) (show _ = I1 320 (0 + j) by rw [cpw_o (by decide), Nat.zero_add]) ?_
      refine q_iast hJ dX11_restore_35 (q := 36) rfl (by first | exact ka317 | exact ka318 | exact ka319 | exact ka320 | exact ka321 | exact ka322) (ixE (j := 0 + j) (by ((try simp only [nIl_add, nI_mul, nIl_0, nIl_1, nIl_2, nIl_3, nIl_4, nIl_5, nIl_6, nIl_7, nIl_8, nIl_9, nIl_10, nIl_11, nIl_12, nIl_20, nIl_60, nIl_72, nIl_80, nIl_81, nIl_82, nIl_99, nIl_100, nIl_226, nIl_227, nIl_228, nIl_229, nIl_230, nIl_231, nIl_232, nIl_233, nIl_413, nIl_1239, nIl_10000]) <;> first | done | rfl | exact congrArg nI (by omega))) (by omega) (by decide)) ?_
      refine q_iinc hJ dX11_restore_36 (q := 39) rfl (by decide) rfl (nI_1 j) ?_
      refine q_goto hJ (tgt := 17) dX11_restore_39 (by decide) ?_
      rw [cpw_step (a := 320) (x := 0)]
      exact ih (j + 1) (by omega)
  rcases Bool.eq_false_or_eq_true kp with hkp | hkp
  · refine q_aload_n hJ dX11_restore_0 (q := 1) rfl rfl (by first | rfl | exact isR_rr _) ?_
    refine q_getI hJ dX11_restore_1 (q := 4) rfl fl_X11_201 rfl (by first | exact ka317 | exact ka318 | exact ka319 | exact ka320 | exact ka321 | exact ka322) (show _ = 1 from H.2.2.2.1.1.trans (by rw [hkp]; rfl)) ?_
    refine q_if_ne hJ (tgt := 11) dX11_restore_4 (q := 7) rfl (by decide) (fun _ => ?_) (fun c1 => absurd c1 (by decide))
    refine q_aload_n hJ dX11_restore_11 (q := 12) rfl rfl (by first | rfl | exact isR_rr _) ?_
    refine q_callV hJ dX11_restore_12 (q := 15) rfl (M_remembers A hs h sn kp tx tn I R hFR H) imX11_remembers ln_X11_33 (by first | exact ka317 | exact ka318 | exact ka319 | exact ka320 | exact ka321 | exact ka322) (by decide) rfl rfl rfl rfl (Nat.le_of_ble_eq_true rfl) (by decide) (by decide) rfl rfl (fun rv gv Iv Rv hv => ?_)
    obtain ⟨rfl, rfl, rfl, H1, ho, ho7⟩ := hv
    have hU1 := H1.1.2.1
    have hS1 := H1.1.2.2.1
    refine q_iconst hJ (v := 0) dX11_restore_15 (q := 16) rfl (by decide) ?_
    refine q_istore_n hJ dX11_restore_16 (q := 17) rfl (by decide) ?_
    obtain ⟨m1, m2⟩ := H1.2.2.2.1.2 hkp
    have h17 := loop Iv m1.1.1 ?_ 413 0 rfl
    · rw [cpw_0] at h17; exact h17
    · rw [hkp]
      refine ⟨rfl, rfl, rfl, fun a ha => by rw [cpw_o (by omega), ho a (by omega) (by omega)], ?_⟩
      rw [hkp] at H1
      exact H1.state (MS.at (M := Iv 320) m1 cpw_wnd) m2 (fun a ha => cpw_o ha)
  · refine q_aload_n hJ dX11_restore_0 (q := 1) rfl rfl (by first | rfl | exact isR_rr _) ?_
    refine q_getI hJ dX11_restore_1 (q := 4) rfl fl_X11_201 rfl (by first | exact ka317 | exact ka318 | exact ka319 | exact ka320 | exact ka321 | exact ka322) (show _ = 0 from H.2.2.2.1.1.trans (by rw [hkp]; rfl)) ?_
    refine q_if_ne hJ (tgt := 11) dX11_restore_4 (q := 7) rfl (by decide) (fun c1 => absurd rfl c1) (fun _ => ?_)
    refine q_sipush hJ (v := (-1006)) dX11_restore_7 (q := 10) rfl (by decide) ?_
    refine q_iret hM dX11_restore_10 rfl rfl ?_
    rw [hkp] at H ⊢
    exact ⟨rfl, rfl, rfl, fun _ _ => rfl, H⟩

