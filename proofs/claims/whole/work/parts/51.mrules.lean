/-! THE MODEL: rules, settings, history, text -/
theorem MOD.rules {I I' : MI} {A : AS} {hs : Nat → AS} {h : Nat} {sn : AS} {kp : Bool} {tx : Nat → Int32} {tn : Nat} (H : MOD I A hs h sn kp tx tn) {U : Nat → Nat → Int32} {m : Nat} (hU : RuW (I' 318) 0 U m) (ok : ∀ r, r < m → okRu (U r)) (h1 : ∀ a, a ≠ 318 → I' a = I a) (h2 : ∀ i, i < 81 ∨ 226 ≤ i → I' 318 i = I 318 i) : MOD I' (setR A U m) hs h sn kp tx tn := by
  obtain ⟨⟨a1, a2, a3, a4⟩, b, ⟨c1, c2, c3⟩, ⟨d1, d2⟩, e1, e2, e3⟩ := H
  refine ⟨⟨a1.of fun i _ q => h2 i (by omega), hU, a3.of fun i q _ => h2 i (by omega), a4.of fun i q _ => h2 i (by omega)⟩, ⟨b.1, ok, b.2.2⟩, ⟨by rw [h1 317 (by decide)]; exact c1, c2, by rw [h1 319 (by decide)]; exact c3⟩, ⟨by rw [h1 317 (by decide)]; exact d1, by rw [h1 320 (by decide)]; exact d2⟩, by rw [h1 317 (by decide)]; exact e1, e2, by rw [h1 321 (by decide)]; exact e3⟩
theorem MOD.sets {I I' : MI} {A : AS} {hs : Nat → AS} {h : Nat} {sn : AS} {kp : Bool} {tx : Nat → Int32} {tn : Nat} (H : MOD I A hs h sn kp tx tn) {S : Nat → Int32} (hS : SetQ (I' 318) 0 S) (ok : ∃ G, 1 ≤ G ∧ G ≤ 8 ∧ S 0 = nI G) (h1 : ∀ a, a ≠ 318 → I' a = I a) (h2 : ∀ i, i < 226 ∨ 232 ≤ i → I' 318 i = I 318 i) : MOD I' (setS A S) hs h sn kp tx tn := by
  obtain ⟨⟨a1, a2, a3, a4⟩, b, ⟨c1, c2, c3⟩, ⟨d1, d2⟩, e1, e2, e3⟩ := H
  refine ⟨⟨a1.of fun i _ q => h2 i (by omega), a2.of fun i _ q => h2 i (by omega), hS, a4.of fun i q _ => h2 i (by omega)⟩, ⟨b.1, b.2.1, ok⟩, ⟨by rw [h1 317 (by decide)]; exact c1, c2, by rw [h1 319 (by decide)]; exact c3⟩, ⟨by rw [h1 317 (by decide)]; exact d1, by rw [h1 320 (by decide)]; exact d2⟩, by rw [h1 317 (by decide)]; exact e1, e2, by rw [h1 321 (by decide)]; exact e3⟩
theorem MOD.state {I I' : MI} {A B : AS} {hs : Nat → AS} {h : Nat} {sn : AS} {kp : Bool} {tx : Nat → Int32} {tn : Nat} (H : MOD I A hs h sn kp tx tn) (hB : MS (I' 318) 0 B) (ok : okM B) (h1 : ∀ a, a ≠ 318 → I' a = I a) : MOD I' B hs h sn kp tx tn := by
  obtain ⟨_, _, ⟨c1, c2, c3⟩, ⟨d1, d2⟩, e1, e2, e3⟩ := H
  exact ⟨hB, ok, ⟨by rw [h1 317 (by decide)]; exact c1, c2, by rw [h1 319 (by decide)]; exact c3⟩, ⟨by rw [h1 317 (by decide)]; exact d1, by rw [h1 320 (by decide)]; exact d2⟩, by rw [h1 317 (by decide)]; exact e1, e2, by rw [h1 321 (by decide)]; exact e3⟩
theorem kF0 {m kd : Int32} (h : m = 0) : kindF m kd = inR kd 0 2 := if_pos h
theorem kF1 {m kd : Int32} (h : ¬ m = 0) (h2 : kd = 1) : kindF m kd = 1 := (if_neg h).trans (if_pos h2)
theorem kF2 {m kd : Int32} (h : ¬ m = 0) (h2 : ¬ kd = 1) : kindF m kd = inR kd 3 5 := (if_neg h).trans (if_neg h2)
theorem iv {x y : Int32} (h : x = y) : some (Value.int x) = some (Value.int y) := by rw [h]
set_option maxRecDepth 100000 in
set_option maxHeartbeats 400000 in
theorem M_cond (x f c n : Int32) (A : AS) (hs : Nat → AS) (h : Nat) (sn : AS) (kp : Bool) (tx : Nat → Int32) (tn : Nat) (I : MI) (R : MR) (hFR : FR R) (H : MOD I A hs h sn kp tx tn) : Sp 2 0 0 mX11_setCondition [.ref 317, .int x, .int f, .int c, .int n] g0 I R (MoP (conV A x f c n) I R (fun I' => (conOk A x f c n ∧ MOD I' (setR A (conU A x.toNatClampNeg f c n) (aM A)) (pushH hs h A) (pushN h) sn kp tx tn) ∨ (¬ conOk A x f c n ∧ MOD I' A hs h sn kp tx tn))) := by
  have hm0 := hFR.2.2.2.2.2.1
  have hm1 := hFR.2.2.2.2.2.2.1
  have hm3 := hFR.2.2.2.2.2.2.2.1
  have hm5 := hFR.2.2.2.2.2.2.2.2.1
  have hm7 := hFR.2.2.2.2.2.2.2.2.2
  have hR := H.1.1
  have ok := H.2.1.1
  have hU := H.1.2.1
  have hm12 := hU.2.1
  have hS := H.1.2.2.1
  have hL := H.1.2.2.2
  have okr := H.2.1.2.1
  refine Sp.on (by decide +kernel) rfl rfl (fun J hM => ?_)
  have hJ := hM.ok
  refine q_aload_n hJ dX11_setCondition_0 (q := 1) rfl rfl (by first | rfl | exact isR_rr _) ?_
  refine q_iload_n hJ dX11_setCondition_1 (q := 2) rfl rfl ?_
  refine q_callV hJ dX11_setCondition_2 (q := 5) rfl (M_isRule (aM A) hm12 x I R hFR hU.1) imX11_isRule ln_X11_155 (by first | exact ka317 | exact ka318 | exact ka319 | exact ka320 | exact ka321 | exact ka322) (by decide) rfl rfl rfl rfl (Nat.le_of_ble_eq_true rfl) (by decide) (by decide) rfl rfl (fun rv gv Iv Rv hv => ?_)
  obtain ⟨rfl, rfl, rfl, rfl⟩ := hv
  refine q_if_ne hJ (tgt := 12) dX11_setCondition_5 (q := 8) rfl (by decide) (fun cR => ?_) (fun cR => ?_)
  · have hr0 : ¬ (x < 0 ∨ nI (aM A) ≤ x) := fun z => cR (if_pos z)
    obtain ⟨r, hr31, rfl⟩ := nI_of (fun z => hr0 (Or.inl z))
    have hr : r < aM A := (nI_ltI hr31 (by omega)).mp (Int32.not_le.mp (fun z => hr0 (Or.inr z)))
    have ecl : (nI r).toNatClampNeg = r := nI_clamp hr31
    refine q_iload_n hJ dX11_setCondition_12 (q := 13) rfl rfl ?_
    refine q_iconst hJ (v := 0) dX11_setCondition_13 (q := 14) rfl (by decide) ?_
    refine q_iconst hJ (v := 3) dX11_setCondition_14 (q := 15) rfl (by decide) ?_
    refine q_callS hJ dX11_setCondition_15 (q := 18) rfl (M_in f 0 3 I R) imX11_in ln_X11_25 rfl rfl rfl (Nat.le_of_ble_eq_true rfl) (by decide) (by decide) rfl rfl (fun rv gv Iv Rv hv => ?_)
    obtain ⟨rfl, rfl, rfl, rfl⟩ := hv
    refine q_if_eq hJ (tgt := 38) dX11_setCondition_18 (q := 21) rfl (by decide) (fun c2 => ?_) (fun c2 => ?_)
    · refine q_sipush hJ (v := (-1002)) dX11_setCondition_38 (q := 41) rfl (by decide) ?_
      refine q_iret hM dX11_setCondition_41 rfl rfl ?_
      first
        | exact ⟨iv ((okR_yes hr0).trans (if_pos c2)).symm, rfl, rfl, fun _ _ => rfl, Or.inr ⟨fun z => z.2.1 c2, H⟩⟩
        | exact ⟨iv ((okR_yes hr0).trans ((if_neg c2).trans (if_pos c3))).symm, rfl, rfl, fun _ _ => rfl, Or.inr ⟨fun z => z.2.2.1 c3, H⟩⟩
        | exact ⟨iv ((okR_yes hr0).trans ((if_neg c2).trans ((if_neg c3).trans (if_pos c4)))).symm, rfl, rfl, fun _ _ => rfl, Or.inr ⟨fun z => z.2.2.2 c4, H⟩⟩
    · refine q_iload_n hJ dX11_setCondition_21 (q := 22) rfl rfl ?_
      refine q_iconst hJ (v := 0) dX11_setCondition_22 (q := 23) rfl (by decide) ?_
      refine q_iconst hJ (v := 5) dX11_setCondition_23 (q := 24) rfl (by decide) ?_
      refine q_callS hJ dX11_setCondition_24 (q := 27) rfl (M_in c 0 5 I R) imX11_in ln_X11_25 rfl rfl rfl (Nat.le_of_ble_eq_true rfl) (by decide) (by decide) rfl rfl (fun rv gv Iv Rv hv => ?_)
      obtain ⟨rfl, rfl, rfl, rfl⟩ := hv
      refine q_if_eq hJ (tgt := 38) dX11_setCondition_27 (q := 30) rfl (by decide) (fun c3 => ?_) (fun c3 => ?_)
      · refine q_sipush hJ (v := (-1002)) dX11_setCondition_38 (q := 41) rfl (by decide) ?_
        refine q_iret hM dX11_setCondition_41 rfl rfl ?_
        first
          | exact ⟨iv ((okR_yes hr0).trans (if_pos c2)).symm, rfl, rfl, fun _ _ => rfl, Or.inr ⟨fun z => z.2.1 c2, H⟩⟩
          | exact ⟨iv ((okR_yes hr0).trans ((if_neg c2).trans (if_pos c3))).symm, rfl, rfl, fun _ _ => rfl, Or.inr ⟨fun z => z.2.2.1 c3, H⟩⟩
          | exact ⟨iv ((okR_yes hr0).trans ((if_neg c2).trans ((if_neg c3).trans (if_pos c4)))).symm, rfl, rfl, fun _ _ => rfl, Or.inr ⟨fun z => z.2.2.2 c4, H⟩⟩
      · refine q_iload hJ dX11_setCondition_30 (q := 32) rfl rfl ?_
        refine q_callS hJ dX11_setCondition_32 (q := 35) rfl (M_isValue n I R) imX11_isValue ln_X11_126 rfl rfl rfl (Nat.le_of_ble_eq_true rfl) (by decide) (by decide) rfl rfl (fun rv gv Iv Rv hv => ?_)
        obtain ⟨rfl, rfl, rfl, rfl⟩ := hv
        refine q_if_ne hJ (tgt := 42) dX11_setCondition_35 (q := 38) rfl (by decide) (fun c4 => ?_) (fun c4 => ?_)
        · refine q_aload_n hJ dX11_setCondition_42 (q := 43) rfl rfl (by first | rfl | exact isR_rr _) ?_
          refine q_callV hJ dX11_setCondition_43 (q := 46) rfl (M_remembers A hs h sn kp tx tn I R hFR H) imX11_remembers ln_X11_33 (by first | exact ka317 | exact ka318 | exact ka319 | exact ka320 | exact ka321 | exact ka322) (by decide) rfl rfl rfl rfl (Nat.le_of_ble_eq_true rfl) (by decide) (by decide) rfl rfl (fun rv gv Iv Rv hv => ?_)
          obtain ⟨rfl, rfl, rfl, H1, ho, ho7⟩ := hv
          have hU1 := H1.1.2.1
          have hS1 := H1.1.2.2.1
          refine q_aload_n hJ dX11_setCondition_46 (q := 47) rfl rfl (by first | rfl | exact isR_rr _) ?_
          refine q_getR hJ dX11_setCondition_47 (q := 50) rfl fl_X11_7 rfl (by first | exact ka317 | exact ka318 | exact ka319 | exact ka320 | exact ka321 | exact ka322) (by assumption) rfl ?_
          refine q_iconst hJ (v := 0) dX11_setCondition_50 (q := 51) rfl (by decide) ?_
          refine q_iload_n hJ dX11_setCondition_51 (q := 52) rfl rfl ?_
          refine q_callS hJ dX11_setCondition_52 (q := 55) rfl (M_ruleAt 0 r _ R) imX11_ruleAt ln_X11_40 rfl rfl rfl (Nat.le_of_ble_eq_true rfl) (by decide) (by decide) rfl rfl (fun rv gv Iv Rv hv => ?_)
          obtain ⟨rfl, rfl, rfl, rfl⟩ := hv
          refine q_bipush hJ (v := 7) dX11_setCondition_55 (q := 57) rfl (by decide) ?_
          refine q_iadd hJ dX11_setCondition_57 (q := 58) rfl ?_
          refine q_iload_n hJ dX11_setCondition_58 (q := 59) rfl rfl ?_
          refine q_iast hJ dX11_setCondition_59 (q := 60) rfl (by first | exact ka317 | exact ka318 | exact ka319 | exact ka320 | exact ka321 | exact ka322) (ixE (j := 0 + 82 + 12 * r + 7) (by ((try simp only [nIl_add, nI_mul, nIl_0, nIl_1, nIl_2, nIl_3, nIl_4, nIl_5, nIl_6, nIl_7, nIl_8, nIl_9, nIl_10, nIl_11, nIl_12, nIl_20, nIl_60, nIl_72, nIl_80, nIl_81, nIl_82, nIl_99, nIl_100, nIl_226, nIl_227, nIl_228, nIl_229, nIl_230, nIl_231, nIl_232, nIl_233, nIl_413, nIl_1239, nIl_10000]) <;> first | done | rfl | exact congrArg nI (by omega))) (by omega) (by decide)) ?_
          refine q_aload_n hJ dX11_setCondition_60 (q := 61) rfl rfl (by first | rfl | exact isR_rr _) ?_
          refine q_getR hJ dX11_setCondition_61 (q := 64) rfl fl_X11_7 rfl (by first | exact ka317 | exact ka318 | exact ka319 | exact ka320 | exact ka321 | exact ka322) (by assumption) rfl ?_
          refine q_iconst hJ (v := 0) dX11_setCondition_64 (q := 65) rfl (by decide) ?_
          refine q_iload_n hJ dX11_setCondition_65 (q := 66) rfl rfl ?_
          refine q_callS hJ dX11_setCondition_66 (q := 69) rfl (M_ruleAt 0 r _ R) imX11_ruleAt ln_X11_40 rfl rfl rfl (Nat.le_of_ble_eq_true rfl) (by decide) (by decide) rfl rfl (fun rv gv Iv Rv hv => ?_)
          obtain ⟨rfl, rfl, rfl, rfl⟩ := hv
          refine q_bipush hJ (v := 8) dX11_setCondition_69 (q := 71) rfl (by decide) ?_
          refine q_iadd hJ dX11_setCondition_71 (q := 72) rfl ?_
          refine q_iload_n hJ dX11_setCondition_72 (q := 73) rfl rfl ?_
          refine q_iast hJ dX11_setCondition_73 (q := 74) rfl (by first | exact ka317 | exact ka318 | exact ka319 | exact ka320 | exact ka321 | exact ka322) (ixE (j := 0 + 82 + 12 * r + 8) (by ((try simp only [nIl_add, nI_mul, nIl_0, nIl_1, nIl_2, nIl_3, nIl_4, nIl_5, nIl_6, nIl_7, nIl_8, nIl_9, nIl_10, nIl_11, nIl_12, nIl_20, nIl_60, nIl_72, nIl_80, nIl_81, nIl_82, nIl_99, nIl_100, nIl_226, nIl_227, nIl_228, nIl_229, nIl_230, nIl_231, nIl_232, nIl_233, nIl_413, nIl_1239, nIl_10000]) <;> first | done | rfl | exact congrArg nI (by omega))) (by omega) (by decide)) ?_
          refine q_aload_n hJ dX11_setCondition_74 (q := 75) rfl rfl (by first | rfl | exact isR_rr _) ?_
          refine q_getR hJ dX11_setCondition_75 (q := 78) rfl fl_X11_7 rfl (by first | exact ka317 | exact ka318 | exact ka319 | exact ka320 | exact ka321 | exact ka322) (by assumption) rfl ?_
          refine q_iconst hJ (v := 0) dX11_setCondition_78 (q := 79) rfl (by decide) ?_
          refine q_iload_n hJ dX11_setCondition_79 (q := 80) rfl rfl ?_
          refine q_callS hJ dX11_setCondition_80 (q := 83) rfl (M_ruleAt 0 r _ R) imX11_ruleAt ln_X11_40 rfl rfl rfl (Nat.le_of_ble_eq_true rfl) (by decide) (by decide) rfl rfl (fun rv gv Iv Rv hv => ?_)
          obtain ⟨rfl, rfl, rfl, rfl⟩ := hv
          refine q_bipush hJ (v := 9) dX11_setCondition_83 (q := 85) rfl (by decide) ?_
          refine q_iadd hJ dX11_setCondition_85 (q := 86) rfl ?_
          refine q_iload hJ dX11_setCondition_86 (q := 88) rfl rfl ?_
          refine q_iast hJ dX11_setCondition_88 (q := 89) rfl (by first | exact ka317 | exact ka318 | exact ka319 | exact ka320 | exact ka321 | exact ka322) (ixE (j := 0 + 82 + 12 * r + 9) (by ((try simp only [nIl_add, nI_mul, nIl_0, nIl_1, nIl_2, nIl_3, nIl_4, nIl_5, nIl_6, nIl_7, nIl_8, nIl_9, nIl_10, nIl_11, nIl_12, nIl_20, nIl_60, nIl_72, nIl_80, nIl_81, nIl_82, nIl_99, nIl_100, nIl_226, nIl_227, nIl_228, nIl_229, nIl_230, nIl_231, nIl_232, nIl_233, nIl_413, nIl_1239, nIl_10000]) <;> first | done | rfl | exact congrArg nI (by omega))) (by omega) (by decide)) ?_
          refine q_iload_n hJ dX11_setCondition_89 (q := 90) rfl rfl ?_
          refine q_iret hM dX11_setCondition_90 rfl rfl ?_
          refine ⟨iv ((okR_yes hr0).trans ((if_neg c2).trans ((if_neg c3).trans (if_neg c4)))).symm, rfl, rfl, fun a ha => by rw [up2_other _ _ _ _ (by omega), up2_other _ _ _ _ (by omega), up2_other _ _ _ _ (by omega), ho a (by omega) (by omega)], Or.inl ⟨⟨hr0, c2, c3, c4⟩, ?_⟩⟩
          rw [ecl]
          refine H1.rules ⟨by rw [up2_i (by omega), up2_i (by omega), up2_i (by omega)]; exact hU1.1, hm12, fun q hq t ht => ?_⟩ (fun q hq => ?_) (fun a ha => by rw [up2_other _ _ _ _ ha, up2_other _ _ _ _ ha, up2_other _ _ _ _ ha]) (fun i hi => by rw [up2_i (by omega), up2_i (by omega), up2_i (by omega)])
          · show _ = (if q = r then (fun t => if t = 7 then f else if t = 8 then c else if t = 9 then n else aU A r t) else aU A q) t
            by_cases e : q = r
            · rw [if_pos e, e]
              show _ = if t = 7 then f else if t = 8 then c else if t = 9 then n else aU A r t
              by_cases e9 : t = 9
              · rw [e9, up2_self, if_neg (by omega), if_neg (by omega), if_pos rfl]
              · by_cases e8 : t = 8
                · rw [e8, up2_i (by omega), up2_self, if_neg (by omega), if_pos rfl]
                · by_cases e7 : t = 7
                  · rw [e7, up2_i (by omega), up2_i (by omega), up2_self, if_pos rfl]
                  · rw [up2_i (by omega), up2_i (by omega), up2_i (by omega), if_neg e7, if_neg e8, if_neg e9]; exact hU1.2.2 r hr t ht
            · rw [up2_i (by omega), up2_i (by omega), up2_i (by omega), if_neg e]; exact hU1.2.2 q hq t ht
          · show okRu (if q = r then (fun t => if t = 7 then f else if t = 8 then c else if t = 9 then n else aU A r t) else aU A q)
            by_cases e : q = r
            · rw [if_pos e]
              have h0 := okr r hr
              exact ⟨h0.1, ⟨h0.2.1.1, h0.2.1.2.1, inR_ne c2, inR_ne c3⟩, h0.2.2⟩
            · rw [if_neg e]; exact okr q hq
        · refine q_sipush hJ (v := (-1002)) dX11_setCondition_38 (q := 41) rfl (by decide) ?_
          refine q_iret hM dX11_setCondition_41 rfl rfl ?_
          first
            | exact ⟨iv ((okR_yes hr0).trans (if_pos c2)).symm, rfl, rfl, fun _ _ => rfl, Or.inr ⟨fun z => z.2.1 c2, H⟩⟩
            | exact ⟨iv ((okR_yes hr0).trans ((if_neg c2).trans (if_pos c3))).symm, rfl, rfl, fun _ _ => rfl, Or.inr ⟨fun z => z.2.2.1 c3, H⟩⟩
            | exact ⟨iv ((okR_yes hr0).trans ((if_neg c2).trans ((if_neg c3).trans (if_pos c4)))).symm, rfl, rfl, fun _ _ => rfl, Or.inr ⟨fun z => z.2.2.2 c4, H⟩⟩
  · refine q_sipush hJ (v := (-1001)) dX11_setCondition_8 (q := 11) rfl (by decide) ?_
    refine q_iret hM dX11_setCondition_11 rfl rfl ?_
    have hr0 : x < 0 ∨ nI (aM A) ≤ x := Decidable.byContradiction fun z => absurd ((if_neg z).symm.trans cR) (by decide)
    exact ⟨iv (okR_not hr0).symm, rfl, rfl, fun _ _ => rfl, Or.inr ⟨fun z => z.1 hr0, H⟩⟩

set_option maxRecDepth 100000 in
set_option maxHeartbeats 400000 in
theorem M_put (x v : Int32) (hv1 : v = 0 ∨ v = 1) (A : AS) (hs : Nat → AS) (h : Nat) (sn : AS) (kp : Bool) (tx : Nat → Int32) (tn : Nat) (I : MI) (R : MR) (hFR : FR R) (H : MOD I A hs h sn kp tx tn) : Sp 2 0 0 mX11_put [.ref 317, .int x, .int v] g0 I R (MoP (putV A x v) I R (fun I' => (putOk A x v ∧ MOD I' (setR A (putU A x.toNatClampNeg v) (aM A)) (pushH hs h A) (pushN h) sn kp tx tn) ∨ (¬ putOk A x v ∧ MOD I' A hs h sn kp tx tn))) := by
  have hm0 := hFR.2.2.2.2.2.1
  have hm1 := hFR.2.2.2.2.2.2.1
  have hm3 := hFR.2.2.2.2.2.2.2.1
  have hm5 := hFR.2.2.2.2.2.2.2.2.1
  have hm7 := hFR.2.2.2.2.2.2.2.2.2
  have hR := H.1.1
  have ok := H.2.1.1
  have hU := H.1.2.1
  have hm12 := hU.2.1
  have hS := H.1.2.2.1
  have hL := H.1.2.2.2
  have okr := H.2.1.2.1
  refine Sp.on (by decide +kernel) rfl rfl (fun J hM => ?_)
  have hJ := hM.ok
  rcases hv1 with rfl | rfl
  · refine q_aload_n hJ dX11_put_0 (q := 1) rfl rfl (by first | rfl | exact isR_rr _) ?_
    refine q_iload_n hJ dX11_put_1 (q := 2) rfl rfl ?_
    refine q_callV hJ dX11_put_2 (q := 5) rfl (M_isRule (aM A) hm12 x I R hFR hU.1) imX11_isRule ln_X11_155 (by first | exact ka317 | exact ka318 | exact ka319 | exact ka320 | exact ka321 | exact ka322) (by decide) rfl rfl rfl rfl (Nat.le_of_ble_eq_true rfl) (by decide) (by decide) rfl rfl (fun rv gv Iv Rv hv => ?_)
    obtain ⟨rfl, rfl, rfl, rfl⟩ := hv
    refine q_if_ne hJ (tgt := 12) dX11_put_5 (q := 8) rfl (by decide) (fun cR => ?_) (fun cR => ?_)
    · have hr0 : ¬ (x < 0 ∨ nI (aM A) ≤ x) := fun z => cR (if_pos z)
      obtain ⟨r, hr31, rfl⟩ := nI_of (fun z => hr0 (Or.inl z))
      have hr : r < aM A := (nI_ltI hr31 (by omega)).mp (Int32.not_le.mp (fun z => hr0 (Or.inr z)))
      have ecl : (nI r).toNatClampNeg = r := nI_clamp hr31
      refine q_iload_n hJ dX11_put_12 (q := 13) rfl rfl ?_
      refine q_if_eq hJ (tgt := 20) dX11_put_13 (q := 16) rfl (by decide) (fun _ => ?_) (fun cb => absurd rfl cb)
      refine q_iconst hJ (v := 0) dX11_put_20 (q := 21) rfl (by decide) ?_
      refine q_istore_n hJ dX11_put_21 (q := 22) rfl (by decide) ?_
      refine q_aload_n hJ dX11_put_22 (q := 23) rfl rfl (by first | rfl | exact isR_rr _) ?_
      refine q_getR hJ dX11_put_23 (q := 26) rfl fl_X11_7 rfl (by first | exact ka317 | exact ka318 | exact ka319 | exact ka320 | exact ka321 | exact ka322) (by assumption) rfl ?_
      refine q_iconst hJ (v := 0) dX11_put_26 (q := 27) rfl (by decide) ?_
      refine q_iload_n hJ dX11_put_27 (q := 28) rfl rfl ?_
      refine q_callS hJ dX11_put_28 (q := 31) rfl (M_ruleAt 0 r I R) imX11_ruleAt ln_X11_40 rfl rfl rfl (Nat.le_of_ble_eq_true rfl) (by decide) (by decide) rfl rfl (fun rv gv Iv Rv hv => ?_)
      obtain ⟨rfl, rfl, rfl, rfl⟩ := hv
      refine q_bipush hJ (v := 10) dX11_put_31 (q := 33) rfl (by decide) ?_
      refine q_iadd hJ dX11_put_33 (q := 34) rfl ?_
      refine q_iald hJ dX11_put_34 (q := 35) rfl (by first | exact ka317 | exact ka318 | exact ka319 | exact ka320 | exact ka321 | exact ka322) (ixE (j := 0 + 82 + 12 * r + 10) (by ((try simp only [nIl_add, nI_mul, nIl_0, nIl_1, nIl_2, nIl_3, nIl_4, nIl_5, nIl_6, nIl_7, nIl_8, nIl_9, nIl_10, nIl_11, nIl_12, nIl_20, nIl_60, nIl_72, nIl_80, nIl_81, nIl_82, nIl_99, nIl_100, nIl_226, nIl_227, nIl_228, nIl_229, nIl_230, nIl_231, nIl_232, nIl_233, nIl_413, nIl_1239, nIl_10000]) <;> first | done | rfl | exact congrArg nI (by omega))) (by omega) (by decide)) (hU.2.2 r hr 10 (by decide)) ?_
      refine q_iload_n hJ dX11_put_35 (q := 36) rfl rfl ?_
      refine q_icmp_ne hJ (tgt := 43) dX11_put_36 (q := 39) rfl (by decide) (fun c2 => ?_) (fun c2 => ?_)
      · refine q_aload_n hJ dX11_put_43 (q := 44) rfl rfl (by first | rfl | exact isR_rr _) ?_
        refine q_callV hJ dX11_put_44 (q := 47) rfl (M_remembers A hs h sn kp tx tn I R hFR H) imX11_remembers ln_X11_33 (by first | exact ka317 | exact ka318 | exact ka319 | exact ka320 | exact ka321 | exact ka322) (by decide) rfl rfl rfl rfl (Nat.le_of_ble_eq_true rfl) (by decide) (by decide) rfl rfl (fun rv gv Iv Rv hv => ?_)
        obtain ⟨rfl, rfl, rfl, H1, ho, ho7⟩ := hv
        have hU1 := H1.1.2.1
        have hS1 := H1.1.2.2.1
        refine q_aload_n hJ dX11_put_47 (q := 48) rfl rfl (by first | rfl | exact isR_rr _) ?_
        refine q_getR hJ dX11_put_48 (q := 51) rfl fl_X11_7 rfl (by first | exact ka317 | exact ka318 | exact ka319 | exact ka320 | exact ka321 | exact ka322) (by assumption) rfl ?_
        refine q_iconst hJ (v := 0) dX11_put_51 (q := 52) rfl (by decide) ?_
        refine q_iload_n hJ dX11_put_52 (q := 53) rfl rfl ?_
        refine q_callS hJ dX11_put_53 (q := 56) rfl (M_ruleAt 0 r _ R) imX11_ruleAt ln_X11_40 rfl rfl rfl (Nat.le_of_ble_eq_true rfl) (by decide) (by decide) rfl rfl (fun rv gv Iv Rv hv => ?_)
        obtain ⟨rfl, rfl, rfl, rfl⟩ := hv
        refine q_bipush hJ (v := 10) dX11_put_56 (q := 58) rfl (by decide) ?_
        refine q_iadd hJ dX11_put_58 (q := 59) rfl ?_
        refine q_iload_n hJ dX11_put_59 (q := 60) rfl rfl ?_
        refine q_iast hJ dX11_put_60 (q := 61) rfl (by first | exact ka317 | exact ka318 | exact ka319 | exact ka320 | exact ka321 | exact ka322) (ixE (j := 0 + 82 + 12 * r + 10) (by ((try simp only [nIl_add, nI_mul, nIl_0, nIl_1, nIl_2, nIl_3, nIl_4, nIl_5, nIl_6, nIl_7, nIl_8, nIl_9, nIl_10, nIl_11, nIl_12, nIl_20, nIl_60, nIl_72, nIl_80, nIl_81, nIl_82, nIl_99, nIl_100, nIl_226, nIl_227, nIl_228, nIl_229, nIl_230, nIl_231, nIl_232, nIl_233, nIl_413, nIl_1239, nIl_10000]) <;> first | done | rfl | exact congrArg nI (by omega))) (by omega) (by decide)) ?_
        refine q_aload_n hJ dX11_put_61 (q := 62) rfl rfl (by first | rfl | exact isR_rr _) ?_
        have hw : RuW (up2 Iv 318 (0 + 82 + 12 * r + 10) 0 318) 0 (putU A r 0) (aM A) := ⟨by rw [up2_i (by omega)]; exact hU1.1, hm12, fun q hq t ht => by
            show _ = (if q = r then (fun f => if f = 10 then 0 else aU A r f) else aU A q) t
            by_cases e : q = r
            · rw [if_pos e, e]
              show _ = if t = 10 then 0 else aU A r t
              by_cases e10 : t = 10
              · rw [e10, up2_self, if_pos rfl]
              · rw [up2_i (by omega), if_neg e10]; exact hU1.2.2 r hr t ht
            · rw [up2_i (by omega), if_neg e]; exact hU1.2.2 q hq t ht⟩
        have okp : ∀ q, q < aM A → okRu (putU A r 0 q) := fun q hq => by
            show okRu (if q = r then (fun f => if f = 10 then 0 else aU A r f) else aU A q)
            by_cases e : q = r
            · rw [if_pos e]
              have h0 := okr r hr
              exact ⟨h0.1, h0.2.1, Or.inl rfl⟩
            · rw [if_neg e]; exact okr q hq
        refine q_callV hJ dX11_put_62 (q := 65) rfl (M_rulesOn (putU A r 0) (aM A) _ R hFR hw (fun q hq => (okp q hq).2.2)) imX11_rulesOn ln_X11_158 (by first | exact ka317 | exact ka318 | exact ka319 | exact ka320 | exact ka321 | exact ka322) (by decide) rfl rfl rfl rfl (Nat.le_of_ble_eq_true rfl) (by decide) (by decide) rfl rfl (fun rv gv Iv Rv hv => ?_)
        obtain ⟨rfl, rfl, rfl, rfl⟩ := hv
        refine q_iret hM dX11_put_65 rfl rfl ?_
        refine ⟨iv ((okR_yes hr0).trans ((if_neg (by rw [ecl]; exact c2)).trans (by rw [ecl]))).symm, rfl, rfl, fun a ha => by rw [up2_other _ _ _ _ (by omega), ho a (by omega) (by omega)], Or.inl ⟨⟨hr0, by rw [ecl]; exact c2⟩, ?_⟩⟩
        rw [ecl]
        exact H1.rules hw okp (fun a ha => up2_other _ _ _ _ ha) (fun i hi => by rw [up2_i (by omega)])
      · refine q_sipush hJ (v := (-1006)) dX11_put_39 (q := 42) rfl (by decide) ?_
        refine q_iret hM dX11_put_42 rfl rfl ?_
        exact ⟨iv ((okR_yes hr0).trans (if_pos (by rw [ecl]; exact c2))).symm, rfl, rfl, fun _ _ => rfl, Or.inr ⟨fun z => z.2 (by rw [ecl]; exact c2), H⟩⟩
    · refine q_sipush hJ (v := (-1001)) dX11_put_8 (q := 11) rfl (by decide) ?_
      refine q_iret hM dX11_put_11 rfl rfl ?_
      have hr0 : x < 0 ∨ nI (aM A) ≤ x := Decidable.byContradiction fun z => absurd ((if_neg z).symm.trans cR) (by decide)
      exact ⟨iv (okR_not hr0).symm, rfl, rfl, fun _ _ => rfl, Or.inr ⟨fun z => z.1 hr0, H⟩⟩
  · refine q_aload_n hJ dX11_put_0 (q := 1) rfl rfl (by first | rfl | exact isR_rr _) ?_
    refine q_iload_n hJ dX11_put_1 (q := 2) rfl rfl ?_
    refine q_callV hJ dX11_put_2 (q := 5) rfl (M_isRule (aM A) hm12 x I R hFR hU.1) imX11_isRule ln_X11_155 (by first | exact ka317 | exact ka318 | exact ka319 | exact ka320 | exact ka321 | exact ka322) (by decide) rfl rfl rfl rfl (Nat.le_of_ble_eq_true rfl) (by decide) (by decide) rfl rfl (fun rv gv Iv Rv hv => ?_)
    obtain ⟨rfl, rfl, rfl, rfl⟩ := hv
    refine q_if_ne hJ (tgt := 12) dX11_put_5 (q := 8) rfl (by decide) (fun cR => ?_) (fun cR => ?_)
    · have hr0 : ¬ (x < 0 ∨ nI (aM A) ≤ x) := fun z => cR (if_pos z)
      obtain ⟨r, hr31, rfl⟩ := nI_of (fun z => hr0 (Or.inl z))
      have hr : r < aM A := (nI_ltI hr31 (by omega)).mp (Int32.not_le.mp (fun z => hr0 (Or.inr z)))
      have ecl : (nI r).toNatClampNeg = r := nI_clamp hr31
      refine q_iload_n hJ dX11_put_12 (q := 13) rfl rfl ?_
      refine q_if_eq hJ (tgt := 20) dX11_put_13 (q := 16) rfl (by decide) (fun cb => absurd cb (by decide)) (fun _ => ?_)
      refine q_iconst hJ (v := 1) dX11_put_16 (q := 17) rfl (by decide) ?_
      refine q_goto hJ (tgt := 21) dX11_put_17 (by decide) ?_
      refine q_istore_n hJ dX11_put_21 (q := 22) rfl (by decide) ?_
      refine q_aload_n hJ dX11_put_22 (q := 23) rfl rfl (by first | rfl | exact isR_rr _) ?_
      refine q_getR hJ dX11_put_23 (q := 26) rfl fl_X11_7 rfl (by first | exact ka317 | exact ka318 | exact ka319 | exact ka320 | exact ka321 | exact ka322) (by assumption) rfl ?_
      refine q_iconst hJ (v := 0) dX11_put_26 (q := 27) rfl (by decide) ?_
      refine q_iload_n hJ dX11_put_27 (q := 28) rfl rfl ?_
      refine q_callS hJ dX11_put_28 (q := 31) rfl (M_ruleAt 0 r I R) imX11_ruleAt ln_X11_40 rfl rfl rfl (Nat.le_of_ble_eq_true rfl) (by decide) (by decide) rfl rfl (fun rv gv Iv Rv hv => ?_)
      obtain ⟨rfl, rfl, rfl, rfl⟩ := hv
      refine q_bipush hJ (v := 10) dX11_put_31 (q := 33) rfl (by decide) ?_
      refine q_iadd hJ dX11_put_33 (q := 34) rfl ?_
      refine q_iald hJ dX11_put_34 (q := 35) rfl (by first | exact ka317 | exact ka318 | exact ka319 | exact ka320 | exact ka321 | exact ka322) (ixE (j := 0 + 82 + 12 * r + 10) (by ((try simp only [nIl_add, nI_mul, nIl_0, nIl_1, nIl_2, nIl_3, nIl_4, nIl_5, nIl_6, nIl_7, nIl_8, nIl_9, nIl_10, nIl_11, nIl_12, nIl_20, nIl_60, nIl_72, nIl_80, nIl_81, nIl_82, nIl_99, nIl_100, nIl_226, nIl_227, nIl_228, nIl_229, nIl_230, nIl_231, nIl_232, nIl_233, nIl_413, nIl_1239, nIl_10000]) <;> first | done | rfl | exact congrArg nI (by omega))) (by omega) (by decide)) (hU.2.2 r hr 10 (by decide)) ?_
      refine q_iload_n hJ dX11_put_35 (q := 36) rfl rfl ?_
      refine q_icmp_ne hJ (tgt := 43) dX11_put_36 (q := 39) rfl (by decide) (fun c2 => ?_) (fun c2 => ?_)
      · refine q_aload_n hJ dX11_put_43 (q := 44) rfl rfl (by first | rfl | exact isR_rr _) ?_
        refine q_callV hJ dX11_put_44 (q := 47) rfl (M_remembers A hs h sn kp tx tn I R hFR H) imX11_remembers ln_X11_33 (by first | exact ka317 | exact ka318 | exact ka319 | exact ka320 | exact ka321 | exact ka322) (by decide) rfl rfl rfl rfl (Nat.le_of_ble_eq_true rfl) (by decide) (by decide) rfl rfl (fun rv gv Iv Rv hv => ?_)
        obtain ⟨rfl, rfl, rfl, H1, ho, ho7⟩ := hv
        have hU1 := H1.1.2.1
        have hS1 := H1.1.2.2.1
        refine q_aload_n hJ dX11_put_47 (q := 48) rfl rfl (by first | rfl | exact isR_rr _) ?_
        refine q_getR hJ dX11_put_48 (q := 51) rfl fl_X11_7 rfl (by first | exact ka317 | exact ka318 | exact ka319 | exact ka320 | exact ka321 | exact ka322) (by assumption) rfl ?_
        refine q_iconst hJ (v := 0) dX11_put_51 (q := 52) rfl (by decide) ?_
        refine q_iload_n hJ dX11_put_52 (q := 53) rfl rfl ?_
        refine q_callS hJ dX11_put_53 (q := 56) rfl (M_ruleAt 0 r _ R) imX11_ruleAt ln_X11_40 rfl rfl rfl (Nat.le_of_ble_eq_true rfl) (by decide) (by decide) rfl rfl (fun rv gv Iv Rv hv => ?_)
        obtain ⟨rfl, rfl, rfl, rfl⟩ := hv
        refine q_bipush hJ (v := 10) dX11_put_56 (q := 58) rfl (by decide) ?_
        refine q_iadd hJ dX11_put_58 (q := 59) rfl ?_
        refine q_iload_n hJ dX11_put_59 (q := 60) rfl rfl ?_
        refine q_iast hJ dX11_put_60 (q := 61) rfl (by first | exact ka317 | exact ka318 | exact ka319 | exact ka320 | exact ka321 | exact ka322) (ixE (j := 0 + 82 + 12 * r + 10) (by ((try simp only [nIl_add, nI_mul, nIl_0, nIl_1, nIl_2, nIl_3, nIl_4, nIl_5, nIl_6, nIl_7, nIl_8, nIl_9, nIl_10, nIl_11, nIl_12, nIl_20, nIl_60, nIl_72, nIl_80, nIl_81, nIl_82, nIl_99, nIl_100, nIl_226, nIl_227, nIl_228, nIl_229, nIl_230, nIl_231, nIl_232, nIl_233, nIl_413, nIl_1239, nIl_10000]) <;> first | done | rfl | exact congrArg nI (by omega))) (by omega) (by decide)) ?_
        refine q_aload_n hJ dX11_put_61 (q := 62) rfl rfl (by first | rfl | exact isR_rr _) ?_
        have hw : RuW (up2 Iv 318 (0 + 82 + 12 * r + 10) 1 318) 0 (putU A r 1) (aM A) := ⟨by rw [up2_i (by omega)]; exact hU1.1, hm12, fun q hq t ht => by
            show _ = (if q = r then (fun f => if f = 10 then 1 else aU A r f) else aU A q) t
            by_cases e : q = r
            · rw [if_pos e, e]
              show _ = if t = 10 then 1 else aU A r t
              by_cases e10 : t = 10
              · rw [e10, up2_self, if_pos rfl]
              · rw [up2_i (by omega), if_neg e10]; exact hU1.2.2 r hr t ht
            · rw [up2_i (by omega), if_neg e]; exact hU1.2.2 q hq t ht⟩
        have okp : ∀ q, q < aM A → okRu (putU A r 1 q) := fun q hq => by
            show okRu (if q = r then (fun f => if f = 10 then 1 else aU A r f) else aU A q)
            by_cases e : q = r
            · rw [if_pos e]
              have h0 := okr r hr
              exact ⟨h0.1, h0.2.1, Or.inr rfl⟩
            · rw [if_neg e]; exact okr q hq
        refine q_callV hJ dX11_put_62 (q := 65) rfl (M_rulesOn (putU A r 1) (aM A) _ R hFR hw (fun q hq => (okp q hq).2.2)) imX11_rulesOn ln_X11_158 (by first | exact ka317 | exact ka318 | exact ka319 | exact ka320 | exact ka321 | exact ka322) (by decide) rfl rfl rfl rfl (Nat.le_of_ble_eq_true rfl) (by decide) (by decide) rfl rfl (fun rv gv Iv Rv hv => ?_)
        obtain ⟨rfl, rfl, rfl, rfl⟩ := hv
        refine q_iret hM dX11_put_65 rfl rfl ?_
        refine ⟨iv ((okR_yes hr0).trans ((if_neg (by rw [ecl]; exact c2)).trans (by rw [ecl]))).symm, rfl, rfl, fun a ha => by rw [up2_other _ _ _ _ (by omega), ho a (by omega) (by omega)], Or.inl ⟨⟨hr0, by rw [ecl]; exact c2⟩, ?_⟩⟩
        rw [ecl]
        exact H1.rules hw okp (fun a ha => up2_other _ _ _ _ ha) (fun i hi => by rw [up2_i (by omega)])
      · refine q_sipush hJ (v := (-1006)) dX11_put_39 (q := 42) rfl (by decide) ?_
        refine q_iret hM dX11_put_42 rfl rfl ?_
        exact ⟨iv ((okR_yes hr0).trans (if_pos (by rw [ecl]; exact c2))).symm, rfl, rfl, fun _ _ => rfl, Or.inr ⟨fun z => z.2 (by rw [ecl]; exact c2), H⟩⟩
    · refine q_sipush hJ (v := (-1001)) dX11_put_8 (q := 11) rfl (by decide) ?_
      refine q_iret hM dX11_put_11 rfl rfl ?_
      have hr0 : x < 0 ∨ nI (aM A) ≤ x := Decidable.byContradiction fun z => absurd ((if_neg z).symm.trans cR) (by decide)
      exact ⟨iv (okR_not hr0).symm, rfl, rfl, fun _ _ => rfl, Or.inr ⟨fun z => z.1 hr0, H⟩⟩

set_option maxRecDepth 100000 in
set_option maxHeartbeats 400000 in
theorem M_remove (x : Int32) (A : AS) (hs : Nat → AS) (h : Nat) (sn : AS) (kp : Bool) (tx : Nat → Int32) (tn : Nat) (I : MI) (R : MR) (hFR : FR R) (H : MOD I A hs h sn kp tx tn) : Sp 2 0 0 mX11_removeRule [.ref 317, .int x] g0 I R (MoP (dropV A x) I R (fun I' => (okR A x ∧ MOD I' (setR A (dropU A x.toNatClampNeg) (aM A - 1)) (pushH hs h A) (pushN h) sn kp tx tn) ∨ (¬ okR A x ∧ MOD I' A hs h sn kp tx tn))) := by
  have hm0 := hFR.2.2.2.2.2.1
  have hm1 := hFR.2.2.2.2.2.2.1
  have hm3 := hFR.2.2.2.2.2.2.2.1
  have hm5 := hFR.2.2.2.2.2.2.2.2.1
  have hm7 := hFR.2.2.2.2.2.2.2.2.2
  have hR := H.1.1
  have ok := H.2.1.1
  have hU := H.1.2.1
  have hm12 := hU.2.1
  have hS := H.1.2.2.1
  have hL := H.1.2.2.2
  have okr := H.2.1.2.1
  refine Sp.on (by decide +kernel) rfl rfl (fun J hM => ?_)
  have hJ := hM.ok
  have loop : ∀ (r : Nat), r < aM A → ∀ I2 : MI, I2 318 (0 + 81) = nI (aM A - 1) → (MoP (dropV A x) I R (fun I' => (okR A x ∧ MOD I' (setR A (dropU A x.toNatClampNeg) (aM A - 1)) (pushH hs h A) (pushN h) sn kp tx tn) ∨ (¬ okR A x ∧ MOD I' A hs h sn kp tx tn))) (some (.int (nI (aM A - 1)))) g0 (cpw I2 318 (0 + 82 + 12 * r + 12) 318 (0 + 82 + 12 * r) (12 * (aM A - 1 - r))) R → ∀ (k j : Nat), k + j = 12 * (aM A - 1 - r) → J 0 0 33 [some (.ref 317), some (.int (nI r)), some (.int (nI (0 + 82 + 12 * r + j)))] [] g0 (cpw I2 318 (0 + 82 + 12 * r + 12) 318 (0 + 82 + 12 * r) j) R := by
    intro r hr I2 h81 hF k
    induction k with
    | zero =>
      intro j hm
      refine q_iload_n hJ dX11_removeRule_33 (q := 34) rfl rfl ?_
      refine q_iconst hJ (v := 0) dX11_removeRule_34 (q := 35) rfl (by decide) ?_
      refine q_aload_n hJ dX11_removeRule_35 (q := 36) rfl rfl (by first | rfl | exact isR_rr _) ?_
      refine q_getR hJ dX11_removeRule_36 (q := 39) rfl fl_X11_7 rfl (by first | exact ka317 | exact ka318 | exact ka319 | exact ka320 | exact ka321 | exact ka322) (by assumption) rfl ?_
      refine q_bipush hJ (v := 81) dX11_removeRule_39 (q := 41) rfl (by decide) ?_
      refine q_iald hJ dX11_removeRule_41 (q := 42) rfl (by first | exact ka317 | exact ka318 | exact ka319 | exact ka320 | exact ka321 | exact ka322) (ixE (j := 0 + 81) (by ((try simp only [nIl_add, nI_mul, nIl_0, nIl_1, nIl_2, nIl_3, nIl_4, nIl_5, nIl_6, nIl_7, nIl_8, nIl_9, nIl_10, nIl_11, nIl_12, nIl_20, nIl_60, nIl_72, nIl_80, nIl_81, nIl_82, nIl_99, nIl_100, nIl_226, nIl_227, nIl_228, nIl_229, nIl_230, nIl_231, nIl_232, nIl_233, nIl_413, nIl_1239, nIl_10000]) <;> first | done | rfl | exact congrArg nI (by omega))) (by decide) (by decide)) (show _ = nI (aM A - 1) by rw [cpw_out (by omega)]; exact h81) ?_
      refine q_callS hJ dX11_removeRule_42 (q := 45) rfl (M_ruleAt 0 (aM A - 1) _ R) imX11_ruleAt ln_X11_40 rfl rfl rfl (Nat.le_of_ble_eq_true rfl) (by decide) (by decide) rfl rfl (fun rv gv Iv Rv hv => ?_)
      obtain ⟨rfl, rfl, rfl, rfl⟩ := hv
      refine q_icmp_ge hJ (tgt := 69) dX11_removeRule_45 (q := 48) rfl (by decide) (fun _ => ?_) (fun c5 => absurd ((nI_leI (a := 0 + 82 + 12 * (aM A - 1)) (b := 0 + 82 + 12 * r + j) (by omega) (by omega)).mpr (by omega)) c5)
      refine q_aload_n hJ dX11_removeRule_69 (q := 70) rfl rfl (by first | rfl | exact isR_rr _) ?_
      refine q_getR hJ dX11_removeRule_70 (q := 73) rfl fl_X11_7 rfl (by first | exact ka317 | exact ka318 | exact ka319 | exact ka320 | exact ka321 | exact ka322) (by assumption) rfl ?_
      refine q_bipush hJ (v := 81) dX11_removeRule_73 (q := 75) rfl (by decide) ?_
      refine q_iald hJ dX11_removeRule_75 (q := 76) rfl (by first | exact ka317 | exact ka318 | exact ka319 | exact ka320 | exact ka321 | exact ka322) (ixE (j := 0 + 81) (by ((try simp only [nIl_add, nI_mul, nIl_0, nIl_1, nIl_2, nIl_3, nIl_4, nIl_5, nIl_6, nIl_7, nIl_8, nIl_9, nIl_10, nIl_11, nIl_12, nIl_20, nIl_60, nIl_72, nIl_80, nIl_81, nIl_82, nIl_99, nIl_100, nIl_226, nIl_227, nIl_228, nIl_229, nIl_230, nIl_231, nIl_232, nIl_233, nIl_413, nIl_1239, nIl_10000]) <;> first | done | rfl | exact congrArg nI (by omega))) (by decide) (by decide)) (show _ = nI (aM A - 1) by rw [cpw_out (by omega)]; exact h81) ?_
      refine q_iret hM dX11_removeRule_76 rfl rfl ?_
      have ej : j = 12 * (aM A - 1 - r) := by omega
      subst ej
      exact hF
    | succ k ih =>
      intro j hm
      refine q_iload_n hJ dX11_removeRule_33 (q := 34) rfl rfl ?_
      refine q_iconst hJ (v := 0) dX11_removeRule_34 (q := 35) rfl (by decide) ?_
      refine q_aload_n hJ dX11_removeRule_35 (q := 36) rfl rfl (by first | rfl | exact isR_rr _) ?_
      refine q_getR hJ dX11_removeRule_36 (q := 39) rfl fl_X11_7 rfl (by first | exact ka317 | exact ka318 | exact ka319 | exact ka320 | exact ka321 | exact ka322) (by assumption) rfl ?_
      refine q_bipush hJ (v := 81) dX11_removeRule_39 (q := 41) rfl (by decide) ?_
      refine q_iald hJ dX11_removeRule_41 (q := 42) rfl (by first | exact ka317 | exact ka318 | exact ka319 | exact ka320 | exact ka321 | exact ka322) (ixE (j := 0 + 81) (by ((try simp only [nIl_add, nI_mul, nIl_0, nIl_1, nIl_2, nIl_3, nIl_4, nIl_5, nIl_6, nIl_7, nIl_8, nIl_9, nIl_10, nIl_11, nIl_12, nIl_20, nIl_60, nIl_72, nIl_80, nIl_81, nIl_82, nIl_99, nIl_100, nIl_226, nIl_227, nIl_228, nIl_229, nIl_230, nIl_231, nIl_232, nIl_233, nIl_413, nIl_1239, nIl_10000]) <;> first | done | rfl | exact congrArg nI (by omega))) (by decide) (by decide)) (show _ = nI (aM A - 1) by rw [cpw_out (by omega)]; exact h81) ?_
      refine q_callS hJ dX11_removeRule_42 (q := 45) rfl (M_ruleAt 0 (aM A - 1) _ R) imX11_ruleAt ln_X11_40 rfl rfl rfl (Nat.le_of_ble_eq_true rfl) (by decide) (by decide) rfl rfl (fun rv gv Iv Rv hv => ?_)
      obtain ⟨rfl, rfl, rfl, rfl⟩ := hv
      refine q_icmp_ge hJ (tgt := 69) dX11_removeRule_45 (q := 48) rfl (by decide) (fun c5 => absurd ((nI_leI (a := 0 + 82 + 12 * (aM A - 1)) (b := 0 + 82 + 12 * r + j) (by omega) (by omega)).mp c5) (by omega)) (fun _ => ?_)
      refine q_aload_n hJ dX11_removeRule_48 (q := 49) rfl rfl (by first | rfl | exact isR_rr _) ?_
      refine q_getR hJ dX11_removeRule_49 (q := 52) rfl fl_X11_7 rfl (by first | exact ka317 | exact ka318 | exact ka319 | exact ka320 | exact ka321 | exact ka322) (by assumption) rfl ?_
      refine q_iload_n hJ dX11_removeRule_52 (q := 53) rfl rfl ?_
      refine q_aload_n hJ dX11_removeRule_53 (q := 54) rfl rfl (by first | rfl | exact isR_rr _) ?_
      refine q_getR hJ dX11_removeRule_54 (q := 57) rfl fl_X11_7 rfl (by first | exact ka317 | exact ka318 | exact ka319 | exact ka320 | exact ka321 | exact ka322) (by assumption) rfl ?_
      refine q_iload_n hJ dX11_removeRule_57 (q := 58) rfl rfl ?_
      refine q_bipush hJ (v := 12) dX11_removeRule_58 (q := 60) rfl (by decide) ?_
      refine q_iadd hJ dX11_removeRule_60 (q := 61) rfl ?_
      refine q_iald hJ dX11_removeRule_61 (q := 62) rfl (by first | exact ka317 | exact ka318 | exact ka319 | exact ka320 | exact ka321 | exact ka322) (ixE (j := 0 + 82 + 12 * r + j + 12) (by ((try simp only [nIl_add, nI_mul, nIl_0, nIl_1, nIl_2, nIl_3, nIl_4, nIl_5, nIl_6, nIl_7, nIl_8, nIl_9, nIl_10, nIl_11, nIl_12, nIl_20, nIl_60, nIl_72, nIl_80, nIl_81, nIl_82, nIl_99, nIl_100, nIl_226, nIl_227, nIl_228, nIl_229, nIl_230, nIl_231, nIl_232, nIl_233, nIl_413, nIl_1239, nIl_10000]) <;> first | done | rfl | exact congrArg nI (by omega))) (by omega) (by decide)) (show _ = I2 318 (0 + 82 + 12 * r + 12 + j) by rw [cpw_out (by omega)]; congr 1; omega) ?_
      refine q_iast hJ dX11_removeRule_62 (q := 63) rfl (by first | exact ka317 | exact ka318 | exact ka319 | exact ka320 | exact ka321 | exact ka322) (ixE (j := 0 + 82 + 12 * r + j) (by ((try simp only [nIl_add, nI_mul, nIl_0, nIl_1, nIl_2, nIl_3, nIl_4, nIl_5, nIl_6, nIl_7, nIl_8, nIl_9, nIl_10, nIl_11, nIl_12, nIl_20, nIl_60, nIl_72, nIl_80, nIl_81, nIl_82, nIl_99, nIl_100, nIl_226, nIl_227, nIl_228, nIl_229, nIl_230, nIl_231, nIl_232, nIl_233, nIl_413, nIl_1239, nIl_10000]) <;> first | done | rfl | exact congrArg nI (by omega))) (by omega) (by decide)) ?_
      refine q_iinc hJ dX11_removeRule_63 (q := 66) rfl (by decide) rfl (nI_1 _) ?_
      refine q_goto hJ (tgt := 33) dX11_removeRule_66 (by decide) ?_
      rw [cpw_step]
      exact ih (j + 1) (by omega)
  refine q_aload_n hJ dX11_removeRule_0 (q := 1) rfl rfl (by first | rfl | exact isR_rr _) ?_
  refine q_iload_n hJ dX11_removeRule_1 (q := 2) rfl rfl ?_
  refine q_callV hJ dX11_removeRule_2 (q := 5) rfl (M_isRule (aM A) hm12 x I R hFR hU.1) imX11_isRule ln_X11_155 (by first | exact ka317 | exact ka318 | exact ka319 | exact ka320 | exact ka321 | exact ka322) (by decide) rfl rfl rfl rfl (Nat.le_of_ble_eq_true rfl) (by decide) (by decide) rfl rfl (fun rv gv Iv Rv hv => ?_)
  obtain ⟨rfl, rfl, rfl, rfl⟩ := hv
  refine q_if_ne hJ (tgt := 12) dX11_removeRule_5 (q := 8) rfl (by decide) (fun cR => ?_) (fun cR => ?_)
  · have hr0 : ¬ (x < 0 ∨ nI (aM A) ≤ x) := fun z => cR (if_pos z)
    obtain ⟨r, hr31, rfl⟩ := nI_of (fun z => hr0 (Or.inl z))
    have hr : r < aM A := (nI_ltI hr31 (by omega)).mp (Int32.not_le.mp (fun z => hr0 (Or.inr z)))
    have ecl : (nI r).toNatClampNeg = r := nI_clamp hr31
    refine q_aload_n hJ dX11_removeRule_12 (q := 13) rfl rfl (by first | rfl | exact isR_rr _) ?_
    refine q_callV hJ dX11_removeRule_13 (q := 16) rfl (M_remembers A hs h sn kp tx tn I R hFR H) imX11_remembers ln_X11_33 (by first | exact ka317 | exact ka318 | exact ka319 | exact ka320 | exact ka321 | exact ka322) (by decide) rfl rfl rfl rfl (Nat.le_of_ble_eq_true rfl) (by decide) (by decide) rfl rfl (fun rv gv Iv Rv hv => ?_)
    obtain ⟨rfl, rfl, rfl, H1, ho, ho7⟩ := hv
    have hU1 := H1.1.2.1
    have hS1 := H1.1.2.2.1
    refine q_aload_n hJ dX11_removeRule_16 (q := 17) rfl rfl (by first | rfl | exact isR_rr _) ?_
    refine q_getR hJ dX11_removeRule_17 (q := 20) rfl fl_X11_7 rfl (by first | exact ka317 | exact ka318 | exact ka319 | exact ka320 | exact ka321 | exact ka322) (by assumption) rfl ?_
    refine q_bipush hJ (v := 81) dX11_removeRule_20 (q := 22) rfl (by decide) ?_
    refine q_dup2 hJ dX11_removeRule_22 (q := 23) rfl rfl rfl ?_
    refine q_iald hJ dX11_removeRule_23 (q := 24) rfl (by first | exact ka317 | exact ka318 | exact ka319 | exact ka320 | exact ka321 | exact ka322) (ixE (j := 0 + 81) (by ((try simp only [nIl_add, nI_mul, nIl_0, nIl_1, nIl_2, nIl_3, nIl_4, nIl_5, nIl_6, nIl_7, nIl_8, nIl_9, nIl_10, nIl_11, nIl_12, nIl_20, nIl_60, nIl_72, nIl_80, nIl_81, nIl_82, nIl_99, nIl_100, nIl_226, nIl_227, nIl_228, nIl_229, nIl_230, nIl_231, nIl_232, nIl_233, nIl_413, nIl_1239, nIl_10000]) <;> first | done | rfl | exact congrArg nI (by omega))) (by decide) (by decide)) hU1.1 ?_
    refine q_iconst hJ (v := 1) dX11_removeRule_24 (q := 25) rfl (by decide) ?_
    refine q_isub hJ dX11_removeRule_25 (q := 26) rfl ?_
    rw [show nI (aM A) - 1 = nI (aM A - 1) from nI_sub (a := aM A) (b := 1) (by omega)]
    refine q_iast hJ dX11_removeRule_26 (q := 27) rfl (by first | exact ka317 | exact ka318 | exact ka319 | exact ka320 | exact ka321 | exact ka322) (ixE (j := 0 + 81) (by ((try simp only [nIl_add, nI_mul, nIl_0, nIl_1, nIl_2, nIl_3, nIl_4, nIl_5, nIl_6, nIl_7, nIl_8, nIl_9, nIl_10, nIl_11, nIl_12, nIl_20, nIl_60, nIl_72, nIl_80, nIl_81, nIl_82, nIl_99, nIl_100, nIl_226, nIl_227, nIl_228, nIl_229, nIl_230, nIl_231, nIl_232, nIl_233, nIl_413, nIl_1239, nIl_10000]) <;> first | done | rfl | exact congrArg nI (by omega))) (by decide) (by decide)) ?_
    refine q_iconst hJ (v := 0) dX11_removeRule_27 (q := 28) rfl (by decide) ?_
    refine q_iload_n hJ dX11_removeRule_28 (q := 29) rfl rfl ?_
    refine q_callS hJ dX11_removeRule_29 (q := 32) rfl (M_ruleAt 0 r _ R) imX11_ruleAt ln_X11_40 rfl rfl rfl (Nat.le_of_ble_eq_true rfl) (by decide) (by decide) rfl rfl (fun rv gv Iv Rv hv => ?_)
    obtain ⟨rfl, rfl, rfl, rfl⟩ := hv
    refine q_istore_n hJ dX11_removeRule_32 (q := 33) rfl (by decide) ?_
    have h33 := loop r hr (up2 Iv 318 (0 + 81) (nI (aM A - 1))) (up2_self _ _ _ _) ?_ (12 * (aM A - 1 - r)) 0 rfl
    · rw [cpw_0] at h33; exact h33
    · refine ⟨iv (okR_yes hr0).symm, rfl, rfl, fun a ha => by rw [cpw_o (by omega), up2_other _ _ _ _ (by omega), ho a (by omega) (by omega)], Or.inl ⟨hr0, ?_⟩⟩
      rw [ecl]
      refine H1.rules ⟨by rw [cpw_out (by omega), up2_self], by omega, fun q hq t ht => ?_⟩ (fun q hq => ?_) (fun a ha => by rw [cpw_o ha, up2_other _ _ _ _ ha]) (fun i hi => by rw [cpw_out (by omega), up2_i (by omega)])
      · show _ = (if q < r then aU A q else aU A (q + 1)) t
        by_cases e : q < r
        · rw [if_pos e, cpw_out (by omega), up2_i (by omega)]; exact hU1.2.2 q (by omega) t ht
        · rw [if_neg e, show 0 + 82 + 12 * q + t = 0 + 82 + 12 * r + (12 * (q - r) + t) by omega, cpw_in (by omega), up2_i (by omega), show 0 + 82 + 12 * r + 12 + (12 * (q - r) + t) = 0 + 82 + 12 * (q + 1) + t by omega]; exact hU1.2.2 (q + 1) (by omega) t ht
      · show okRu (if q < r then aU A q else aU A (q + 1))
        by_cases e : q < r
        · rw [if_pos e]; exact okr q (by omega)
        · rw [if_neg e]; exact okr (q + 1) (by omega)
  · refine q_sipush hJ (v := (-1001)) dX11_removeRule_8 (q := 11) rfl (by decide) ?_
    refine q_iret hM dX11_removeRule_11 rfl rfl ?_
    have hr0 : x < 0 ∨ nI (aM A) ≤ x := Decidable.byContradiction fun z => absurd ((if_neg z).symm.trans cR) (by decide)
    exact ⟨iv (okR_not hr0).symm, rfl, rfl, fun _ _ => rfl, Or.inr ⟨fun z => z hr0, H⟩⟩

set_option maxRecDepth 100000 in
set_option maxHeartbeats 800000 in
theorem M_add (e m rk kd a b c : Int32) (A : AS) (hs : Nat → AS) (h : Nat) (sn : AS) (kp : Bool) (tx : Nat → Int32) (tn : Nat) (I : MI) (R : MR) (hFR : FR R) (H : MOD I A hs h sn kp tx tn) : Sp 2 0 0 mX11_addRule [.ref 317, .int e, .int m, .int rk, .int kd, .int a, .int b, .int c] g0 I R (MoP (addV A e m rk kd a b c) I R (fun I' => (addOk A e m rk kd a b c ∧ MOD I' (setR A (addU A e m rk kd a b c) (aM A + 1)) (pushH hs h A) (pushN h) sn kp tx tn) ∨ (¬ addOk A e m rk kd a b c ∧ MOD I' A hs h sn kp tx tn))) := by
  have hm0 := hFR.2.2.2.2.2.1
  have hm1 := hFR.2.2.2.2.2.2.1
  have hm3 := hFR.2.2.2.2.2.2.2.1
  have hm5 := hFR.2.2.2.2.2.2.2.2.1
  have hm7 := hFR.2.2.2.2.2.2.2.2.2
  have hR := H.1.1
  have ok := H.2.1.1
  have hU := H.1.2.1
  have hm12 := hU.2.1
  have hS := H.1.2.2.1
  have hL := H.1.2.2.2
  have okr := H.2.1.2.1
  refine Sp.on (by decide +kernel) rfl rfl (fun J hM => ?_)
  have hJ := hM.ok
  have rest : ∀ y : Int32, ((y = 0 ∧ kindF m kd = 0) ∨ (y = 1 ∧ kindF m kd = 1)) → J 0 0 37 [some (.ref 317), some (.int e), some (.int m), some (.int rk), some (.int kd), some (.int a), some (.int b), some (.int c), some (.int y), none, none] [] g0 I R := by
    intro y hkk
    refine q_iload_n hJ dX11_addRule_37 (q := 38) rfl rfl ?_
    refine q_iconst hJ (v := 0) dX11_addRule_38 (q := 39) rfl (by decide) ?_
    refine q_iconst hJ (v := 2) dX11_addRule_39 (q := 40) rfl (by decide) ?_
    refine q_callS hJ dX11_addRule_40 (q := 43) rfl (M_in e 0 2 I R) imX11_in ln_X11_25 rfl rfl rfl (Nat.le_of_ble_eq_true rfl) (by decide) (by decide) rfl rfl (fun rv gv Iv Rv hv => ?_)
    obtain ⟨rfl, rfl, rfl, rfl⟩ := hv
    refine q_if_eq hJ (tgt := 74) dX11_addRule_43 (q := 46) rfl (by decide) (fun c1 => ?_) (fun c1 => ?_)
    · refine q_iconst hJ (v := 0) dX11_addRule_74 (q := 75) rfl (by decide) ?_
      refine q_istore hJ dX11_addRule_75 (q := 77) rfl (by decide) ?_
      refine q_iload hJ dX11_addRule_77 (q := 79) rfl rfl ?_
      refine q_if_eq hJ (tgt := 110) dX11_addRule_79 (q := 82) rfl (by decide) (fun _ => ?_) (fun d5 => absurd rfl d5)
      refine q_sipush hJ (v := (-1002)) dX11_addRule_110 (q := 113) rfl (by decide) ?_
      refine q_iret hM dX11_addRule_113 rfl rfl ?_
      first
        | exact ⟨iv (if_pos (show addB e m rk kd a b c from Or.inl c1)).symm, rfl, rfl, fun _ _ => rfl, Or.inr ⟨fun z => z.1 (Or.inl c1), H⟩⟩
        | exact ⟨iv (if_pos (show addB e m rk kd a b c from Or.inr (Or.inl c2))).symm, rfl, rfl, fun _ _ => rfl, Or.inr ⟨fun z => z.1 (Or.inr (Or.inl c2)), H⟩⟩
        | exact ⟨iv (if_pos (show addB e m rk kd a b c from Or.inr (Or.inr (Or.inl c3)))).symm, rfl, rfl, fun _ _ => rfl, Or.inr ⟨fun z => z.1 (Or.inr (Or.inr (Or.inl c3))), H⟩⟩
        | exact ⟨iv (if_pos (show addB e m rk kd a b c from Or.inr (Or.inr (Or.inr (Or.inr (Or.inl c5)))))).symm, rfl, rfl, fun _ _ => rfl, Or.inr ⟨fun z => z.1 (Or.inr (Or.inr (Or.inr (Or.inr (Or.inl c5))))), H⟩⟩
        | exact ⟨iv (if_pos (show addB e m rk kd a b c from Or.inr (Or.inr (Or.inr (Or.inr (Or.inr (Or.inl c6))))))).symm, rfl, rfl, fun _ _ => rfl, Or.inr ⟨fun z => z.1 (Or.inr (Or.inr (Or.inr (Or.inr (Or.inr (Or.inl c6)))))), H⟩⟩
        | exact ⟨iv (if_pos (show addB e m rk kd a b c from Or.inr (Or.inr (Or.inr (Or.inr (Or.inr (Or.inr c7))))))).symm, rfl, rfl, fun _ _ => rfl, Or.inr ⟨fun z => z.1 (Or.inr (Or.inr (Or.inr (Or.inr (Or.inr (Or.inr c7)))))), H⟩⟩
        | (have hk0 : kindF m kd = 0 := hkk.elim (fun z => z.2) (fun z => absurd (z.1.symm.trans d4) (by decide))
           exact ⟨iv (if_pos (show addB e m rk kd a b c from Or.inr (Or.inr (Or.inr (Or.inl hk0))))).symm, rfl, rfl, fun _ _ => rfl, Or.inr ⟨fun z => z.1 (Or.inr (Or.inr (Or.inr (Or.inl hk0)))), H⟩⟩)
        | fail
    · refine q_iload_n hJ dX11_addRule_46 (q := 47) rfl rfl ?_
      refine q_iconst hJ (v := 0) dX11_addRule_47 (q := 48) rfl (by decide) ?_
      refine q_iconst hJ (v := 1) dX11_addRule_48 (q := 49) rfl (by decide) ?_
      refine q_callS hJ dX11_addRule_49 (q := 52) rfl (M_in m 0 1 I R) imX11_in ln_X11_25 rfl rfl rfl (Nat.le_of_ble_eq_true rfl) (by decide) (by decide) rfl rfl (fun rv gv Iv Rv hv => ?_)
      obtain ⟨rfl, rfl, rfl, rfl⟩ := hv
      refine q_if_eq hJ (tgt := 74) dX11_addRule_52 (q := 55) rfl (by decide) (fun c2 => ?_) (fun c2 => ?_)
      · refine q_iconst hJ (v := 0) dX11_addRule_74 (q := 75) rfl (by decide) ?_
        refine q_istore hJ dX11_addRule_75 (q := 77) rfl (by decide) ?_
        refine q_iload hJ dX11_addRule_77 (q := 79) rfl rfl ?_
        refine q_if_eq hJ (tgt := 110) dX11_addRule_79 (q := 82) rfl (by decide) (fun _ => ?_) (fun d5 => absurd rfl d5)
        refine q_sipush hJ (v := (-1002)) dX11_addRule_110 (q := 113) rfl (by decide) ?_
        refine q_iret hM dX11_addRule_113 rfl rfl ?_
        first
          | exact ⟨iv (if_pos (show addB e m rk kd a b c from Or.inl c1)).symm, rfl, rfl, fun _ _ => rfl, Or.inr ⟨fun z => z.1 (Or.inl c1), H⟩⟩
          | exact ⟨iv (if_pos (show addB e m rk kd a b c from Or.inr (Or.inl c2))).symm, rfl, rfl, fun _ _ => rfl, Or.inr ⟨fun z => z.1 (Or.inr (Or.inl c2)), H⟩⟩
          | exact ⟨iv (if_pos (show addB e m rk kd a b c from Or.inr (Or.inr (Or.inl c3)))).symm, rfl, rfl, fun _ _ => rfl, Or.inr ⟨fun z => z.1 (Or.inr (Or.inr (Or.inl c3))), H⟩⟩
          | exact ⟨iv (if_pos (show addB e m rk kd a b c from Or.inr (Or.inr (Or.inr (Or.inr (Or.inl c5)))))).symm, rfl, rfl, fun _ _ => rfl, Or.inr ⟨fun z => z.1 (Or.inr (Or.inr (Or.inr (Or.inr (Or.inl c5))))), H⟩⟩
          | exact ⟨iv (if_pos (show addB e m rk kd a b c from Or.inr (Or.inr (Or.inr (Or.inr (Or.inr (Or.inl c6))))))).symm, rfl, rfl, fun _ _ => rfl, Or.inr ⟨fun z => z.1 (Or.inr (Or.inr (Or.inr (Or.inr (Or.inr (Or.inl c6)))))), H⟩⟩
          | exact ⟨iv (if_pos (show addB e m rk kd a b c from Or.inr (Or.inr (Or.inr (Or.inr (Or.inr (Or.inr c7))))))).symm, rfl, rfl, fun _ _ => rfl, Or.inr ⟨fun z => z.1 (Or.inr (Or.inr (Or.inr (Or.inr (Or.inr (Or.inr c7)))))), H⟩⟩
          | (have hk0 : kindF m kd = 0 := hkk.elim (fun z => z.2) (fun z => absurd (z.1.symm.trans d4) (by decide))
             exact ⟨iv (if_pos (show addB e m rk kd a b c from Or.inr (Or.inr (Or.inr (Or.inl hk0))))).symm, rfl, rfl, fun _ _ => rfl, Or.inr ⟨fun z => z.1 (Or.inr (Or.inr (Or.inr (Or.inl hk0)))), H⟩⟩)
          | fail
      · refine q_iload_n hJ dX11_addRule_55 (q := 56) rfl rfl ?_
        refine q_iconst hJ (v := 0) dX11_addRule_56 (q := 57) rfl (by decide) ?_
        refine q_bipush hJ (v := 99) dX11_addRule_57 (q := 59) rfl (by decide) ?_
        refine q_callS hJ dX11_addRule_59 (q := 62) rfl (M_in rk 0 99 I R) imX11_in ln_X11_25 rfl rfl rfl (Nat.le_of_ble_eq_true rfl) (by decide) (by decide) rfl rfl (fun rv gv Iv Rv hv => ?_)
        obtain ⟨rfl, rfl, rfl, rfl⟩ := hv
        refine q_if_eq hJ (tgt := 74) dX11_addRule_62 (q := 65) rfl (by decide) (fun c3 => ?_) (fun c3 => ?_)
        · refine q_iconst hJ (v := 0) dX11_addRule_74 (q := 75) rfl (by decide) ?_
          refine q_istore hJ dX11_addRule_75 (q := 77) rfl (by decide) ?_
          refine q_iload hJ dX11_addRule_77 (q := 79) rfl rfl ?_
          refine q_if_eq hJ (tgt := 110) dX11_addRule_79 (q := 82) rfl (by decide) (fun _ => ?_) (fun d5 => absurd rfl d5)
          refine q_sipush hJ (v := (-1002)) dX11_addRule_110 (q := 113) rfl (by decide) ?_
          refine q_iret hM dX11_addRule_113 rfl rfl ?_
          first
            | exact ⟨iv (if_pos (show addB e m rk kd a b c from Or.inl c1)).symm, rfl, rfl, fun _ _ => rfl, Or.inr ⟨fun z => z.1 (Or.inl c1), H⟩⟩
            | exact ⟨iv (if_pos (show addB e m rk kd a b c from Or.inr (Or.inl c2))).symm, rfl, rfl, fun _ _ => rfl, Or.inr ⟨fun z => z.1 (Or.inr (Or.inl c2)), H⟩⟩
            | exact ⟨iv (if_pos (show addB e m rk kd a b c from Or.inr (Or.inr (Or.inl c3)))).symm, rfl, rfl, fun _ _ => rfl, Or.inr ⟨fun z => z.1 (Or.inr (Or.inr (Or.inl c3))), H⟩⟩
            | exact ⟨iv (if_pos (show addB e m rk kd a b c from Or.inr (Or.inr (Or.inr (Or.inr (Or.inl c5)))))).symm, rfl, rfl, fun _ _ => rfl, Or.inr ⟨fun z => z.1 (Or.inr (Or.inr (Or.inr (Or.inr (Or.inl c5))))), H⟩⟩
            | exact ⟨iv (if_pos (show addB e m rk kd a b c from Or.inr (Or.inr (Or.inr (Or.inr (Or.inr (Or.inl c6))))))).symm, rfl, rfl, fun _ _ => rfl, Or.inr ⟨fun z => z.1 (Or.inr (Or.inr (Or.inr (Or.inr (Or.inr (Or.inl c6)))))), H⟩⟩
            | exact ⟨iv (if_pos (show addB e m rk kd a b c from Or.inr (Or.inr (Or.inr (Or.inr (Or.inr (Or.inr c7))))))).symm, rfl, rfl, fun _ _ => rfl, Or.inr ⟨fun z => z.1 (Or.inr (Or.inr (Or.inr (Or.inr (Or.inr (Or.inr c7)))))), H⟩⟩
            | (have hk0 : kindF m kd = 0 := hkk.elim (fun z => z.2) (fun z => absurd (z.1.symm.trans d4) (by decide))
               exact ⟨iv (if_pos (show addB e m rk kd a b c from Or.inr (Or.inr (Or.inr (Or.inl hk0))))).symm, rfl, rfl, fun _ _ => rfl, Or.inr ⟨fun z => z.1 (Or.inr (Or.inr (Or.inr (Or.inl hk0)))), H⟩⟩)
            | fail
        · refine q_iload hJ dX11_addRule_65 (q := 67) rfl rfl ?_
          refine q_if_eq hJ (tgt := 74) dX11_addRule_67 (q := 70) rfl (by decide) (fun d4 => ?_) (fun d4 => ?_)
          · refine q_iconst hJ (v := 0) dX11_addRule_74 (q := 75) rfl (by decide) ?_
            refine q_istore hJ dX11_addRule_75 (q := 77) rfl (by decide) ?_
            refine q_iload hJ dX11_addRule_77 (q := 79) rfl rfl ?_
            refine q_if_eq hJ (tgt := 110) dX11_addRule_79 (q := 82) rfl (by decide) (fun _ => ?_) (fun d5 => absurd rfl d5)
            refine q_sipush hJ (v := (-1002)) dX11_addRule_110 (q := 113) rfl (by decide) ?_
            refine q_iret hM dX11_addRule_113 rfl rfl ?_
            first
              | exact ⟨iv (if_pos (show addB e m rk kd a b c from Or.inl c1)).symm, rfl, rfl, fun _ _ => rfl, Or.inr ⟨fun z => z.1 (Or.inl c1), H⟩⟩
              | exact ⟨iv (if_pos (show addB e m rk kd a b c from Or.inr (Or.inl c2))).symm, rfl, rfl, fun _ _ => rfl, Or.inr ⟨fun z => z.1 (Or.inr (Or.inl c2)), H⟩⟩
              | exact ⟨iv (if_pos (show addB e m rk kd a b c from Or.inr (Or.inr (Or.inl c3)))).symm, rfl, rfl, fun _ _ => rfl, Or.inr ⟨fun z => z.1 (Or.inr (Or.inr (Or.inl c3))), H⟩⟩
              | exact ⟨iv (if_pos (show addB e m rk kd a b c from Or.inr (Or.inr (Or.inr (Or.inr (Or.inl c5)))))).symm, rfl, rfl, fun _ _ => rfl, Or.inr ⟨fun z => z.1 (Or.inr (Or.inr (Or.inr (Or.inr (Or.inl c5))))), H⟩⟩
              | exact ⟨iv (if_pos (show addB e m rk kd a b c from Or.inr (Or.inr (Or.inr (Or.inr (Or.inr (Or.inl c6))))))).symm, rfl, rfl, fun _ _ => rfl, Or.inr ⟨fun z => z.1 (Or.inr (Or.inr (Or.inr (Or.inr (Or.inr (Or.inl c6)))))), H⟩⟩
              | exact ⟨iv (if_pos (show addB e m rk kd a b c from Or.inr (Or.inr (Or.inr (Or.inr (Or.inr (Or.inr c7))))))).symm, rfl, rfl, fun _ _ => rfl, Or.inr ⟨fun z => z.1 (Or.inr (Or.inr (Or.inr (Or.inr (Or.inr (Or.inr c7)))))), H⟩⟩
              | (have hk0 : kindF m kd = 0 := hkk.elim (fun z => z.2) (fun z => absurd (z.1.symm.trans d4) (by decide))
                 exact ⟨iv (if_pos (show addB e m rk kd a b c from Or.inr (Or.inr (Or.inr (Or.inl hk0))))).symm, rfl, rfl, fun _ _ => rfl, Or.inr ⟨fun z => z.1 (Or.inr (Or.inr (Or.inr (Or.inl hk0)))), H⟩⟩)
              | fail
          · refine q_iconst hJ (v := 1) dX11_addRule_70 (q := 71) rfl (by decide) ?_
            refine q_goto hJ (tgt := 75) dX11_addRule_71 (by decide) ?_
            refine q_istore hJ dX11_addRule_75 (q := 77) rfl (by decide) ?_
            refine q_iload hJ dX11_addRule_77 (q := 79) rfl rfl ?_
            refine q_if_eq hJ (tgt := 110) dX11_addRule_79 (q := 82) rfl (by decide) (fun d5 => absurd d5 (by decide)) (fun _ => ?_)
            refine q_iload hJ dX11_addRule_82 (q := 84) rfl rfl ?_
            refine q_iconst hJ (v := 0) dX11_addRule_84 (q := 85) rfl (by decide) ?_
            refine q_iconst hJ (v := 2) dX11_addRule_85 (q := 86) rfl (by decide) ?_
            refine q_callS hJ dX11_addRule_86 (q := 89) rfl (M_in a 0 2 I R) imX11_in ln_X11_25 rfl rfl rfl (Nat.le_of_ble_eq_true rfl) (by decide) (by decide) rfl rfl (fun rv gv Iv Rv hv => ?_)
            obtain ⟨rfl, rfl, rfl, rfl⟩ := hv
            refine q_if_eq hJ (tgt := 110) dX11_addRule_89 (q := 92) rfl (by decide) (fun c5 => ?_) (fun c5 => ?_)
            · refine q_sipush hJ (v := (-1002)) dX11_addRule_110 (q := 113) rfl (by decide) ?_
              refine q_iret hM dX11_addRule_113 rfl rfl ?_
              first
                | exact ⟨iv (if_pos (show addB e m rk kd a b c from Or.inl c1)).symm, rfl, rfl, fun _ _ => rfl, Or.inr ⟨fun z => z.1 (Or.inl c1), H⟩⟩
                | exact ⟨iv (if_pos (show addB e m rk kd a b c from Or.inr (Or.inl c2))).symm, rfl, rfl, fun _ _ => rfl, Or.inr ⟨fun z => z.1 (Or.inr (Or.inl c2)), H⟩⟩
                | exact ⟨iv (if_pos (show addB e m rk kd a b c from Or.inr (Or.inr (Or.inl c3)))).symm, rfl, rfl, fun _ _ => rfl, Or.inr ⟨fun z => z.1 (Or.inr (Or.inr (Or.inl c3))), H⟩⟩
                | exact ⟨iv (if_pos (show addB e m rk kd a b c from Or.inr (Or.inr (Or.inr (Or.inr (Or.inl c5)))))).symm, rfl, rfl, fun _ _ => rfl, Or.inr ⟨fun z => z.1 (Or.inr (Or.inr (Or.inr (Or.inr (Or.inl c5))))), H⟩⟩
                | exact ⟨iv (if_pos (show addB e m rk kd a b c from Or.inr (Or.inr (Or.inr (Or.inr (Or.inr (Or.inl c6))))))).symm, rfl, rfl, fun _ _ => rfl, Or.inr ⟨fun z => z.1 (Or.inr (Or.inr (Or.inr (Or.inr (Or.inr (Or.inl c6)))))), H⟩⟩
                | exact ⟨iv (if_pos (show addB e m rk kd a b c from Or.inr (Or.inr (Or.inr (Or.inr (Or.inr (Or.inr c7))))))).symm, rfl, rfl, fun _ _ => rfl, Or.inr ⟨fun z => z.1 (Or.inr (Or.inr (Or.inr (Or.inr (Or.inr (Or.inr c7)))))), H⟩⟩
                | (have hk0 : kindF m kd = 0 := hkk.elim (fun z => z.2) (fun z => absurd (z.1.symm.trans d4) (by decide))
                   exact ⟨iv (if_pos (show addB e m rk kd a b c from Or.inr (Or.inr (Or.inr (Or.inl hk0))))).symm, rfl, rfl, fun _ _ => rfl, Or.inr ⟨fun z => z.1 (Or.inr (Or.inr (Or.inr (Or.inl hk0)))), H⟩⟩)
                | fail
            · refine q_iload hJ dX11_addRule_92 (q := 94) rfl rfl ?_
              refine q_iconst hJ (v := 0) dX11_addRule_94 (q := 95) rfl (by decide) ?_
              refine q_iconst hJ (v := 3) dX11_addRule_95 (q := 96) rfl (by decide) ?_
              refine q_callS hJ dX11_addRule_96 (q := 99) rfl (M_in b 0 3 I R) imX11_in ln_X11_25 rfl rfl rfl (Nat.le_of_ble_eq_true rfl) (by decide) (by decide) rfl rfl (fun rv gv Iv Rv hv => ?_)
              obtain ⟨rfl, rfl, rfl, rfl⟩ := hv
              refine q_if_eq hJ (tgt := 110) dX11_addRule_99 (q := 102) rfl (by decide) (fun c6 => ?_) (fun c6 => ?_)
              · refine q_sipush hJ (v := (-1002)) dX11_addRule_110 (q := 113) rfl (by decide) ?_
                refine q_iret hM dX11_addRule_113 rfl rfl ?_
                first
                  | exact ⟨iv (if_pos (show addB e m rk kd a b c from Or.inl c1)).symm, rfl, rfl, fun _ _ => rfl, Or.inr ⟨fun z => z.1 (Or.inl c1), H⟩⟩
                  | exact ⟨iv (if_pos (show addB e m rk kd a b c from Or.inr (Or.inl c2))).symm, rfl, rfl, fun _ _ => rfl, Or.inr ⟨fun z => z.1 (Or.inr (Or.inl c2)), H⟩⟩
                  | exact ⟨iv (if_pos (show addB e m rk kd a b c from Or.inr (Or.inr (Or.inl c3)))).symm, rfl, rfl, fun _ _ => rfl, Or.inr ⟨fun z => z.1 (Or.inr (Or.inr (Or.inl c3))), H⟩⟩
                  | exact ⟨iv (if_pos (show addB e m rk kd a b c from Or.inr (Or.inr (Or.inr (Or.inr (Or.inl c5)))))).symm, rfl, rfl, fun _ _ => rfl, Or.inr ⟨fun z => z.1 (Or.inr (Or.inr (Or.inr (Or.inr (Or.inl c5))))), H⟩⟩
                  | exact ⟨iv (if_pos (show addB e m rk kd a b c from Or.inr (Or.inr (Or.inr (Or.inr (Or.inr (Or.inl c6))))))).symm, rfl, rfl, fun _ _ => rfl, Or.inr ⟨fun z => z.1 (Or.inr (Or.inr (Or.inr (Or.inr (Or.inr (Or.inl c6)))))), H⟩⟩
                  | exact ⟨iv (if_pos (show addB e m rk kd a b c from Or.inr (Or.inr (Or.inr (Or.inr (Or.inr (Or.inr c7))))))).symm, rfl, rfl, fun _ _ => rfl, Or.inr ⟨fun z => z.1 (Or.inr (Or.inr (Or.inr (Or.inr (Or.inr (Or.inr c7)))))), H⟩⟩
                  | (have hk0 : kindF m kd = 0 := hkk.elim (fun z => z.2) (fun z => absurd (z.1.symm.trans d4) (by decide))
                     exact ⟨iv (if_pos (show addB e m rk kd a b c from Or.inr (Or.inr (Or.inr (Or.inl hk0))))).symm, rfl, rfl, fun _ _ => rfl, Or.inr ⟨fun z => z.1 (Or.inr (Or.inr (Or.inr (Or.inl hk0)))), H⟩⟩)
                  | fail
              · refine q_iload hJ dX11_addRule_102 (q := 104) rfl rfl ?_
                refine q_callS hJ dX11_addRule_104 (q := 107) rfl (M_isValue c I R) imX11_isValue ln_X11_126 rfl rfl rfl (Nat.le_of_ble_eq_true rfl) (by decide) (by decide) rfl rfl (fun rv gv Iv Rv hv => ?_)
                obtain ⟨rfl, rfl, rfl, rfl⟩ := hv
                refine q_if_ne hJ (tgt := 114) dX11_addRule_107 (q := 110) rfl (by decide) (fun c7 => ?_) (fun c7 => ?_)
                · have hk1 : kindF m kd = 1 := hkk.elim (fun z => absurd z.1 d4) (fun z => z.2)
                  have hP : ¬ addB e m rk kd a b c := by
                      rintro (z | z | z | z | z | z | z)
                      · exact c1 z
                      · exact c2 z
                      · exact c3 z
                      · exact absurd (hk1.symm.trans z) (by decide)
                      · exact c5 z
                      · exact c6 z
                      · exact c7 z
                  refine q_aload_n hJ dX11_addRule_114 (q := 115) rfl rfl (by first | rfl | exact isR_rr _) ?_
                  refine q_getR hJ dX11_addRule_115 (q := 118) rfl fl_X11_7 rfl (by first | exact ka317 | exact ka318 | exact ka319 | exact ka320 | exact ka321 | exact ka322) (by assumption) rfl ?_
                  refine q_bipush hJ (v := 81) dX11_addRule_118 (q := 120) rfl (by decide) ?_
                  refine q_iald hJ dX11_addRule_120 (q := 121) rfl (by first | exact ka317 | exact ka318 | exact ka319 | exact ka320 | exact ka321 | exact ka322) (ixE (j := 0 + 81) (by ((try simp only [nIl_add, nI_mul, nIl_0, nIl_1, nIl_2, nIl_3, nIl_4, nIl_5, nIl_6, nIl_7, nIl_8, nIl_9, nIl_10, nIl_11, nIl_12, nIl_20, nIl_60, nIl_72, nIl_80, nIl_81, nIl_82, nIl_99, nIl_100, nIl_226, nIl_227, nIl_228, nIl_229, nIl_230, nIl_231, nIl_232, nIl_233, nIl_413, nIl_1239, nIl_10000]) <;> first | done | rfl | exact congrArg nI (by omega))) (by decide) (by decide)) hU.1 ?_
                  refine q_bipush hJ (v := 12) dX11_addRule_121 (q := 123) rfl (by decide) ?_
                  refine q_icmp_ne hJ (tgt := 130) dX11_addRule_123 (q := 126) rfl (by decide) (fun c8 => ?_) (fun c8 => ?_)
                  · refine q_aload_n hJ dX11_addRule_130 (q := 131) rfl rfl (by first | rfl | exact isR_rr _) ?_
                    have h12 : aM A < 12 := by
                        rcases Nat.lt_or_ge (aM A) 12 with z | z
                        · exact z
                        · exact absurd (show nI (aM A) = 12 by rw [show aM A = 12 by omega]; rfl) c8
                    refine q_callV hJ dX11_addRule_131 (q := 134) rfl (M_remembers A hs h sn kp tx tn I R hFR H) imX11_remembers ln_X11_33 (by first | exact ka317 | exact ka318 | exact ka319 | exact ka320 | exact ka321 | exact ka322) (by decide) rfl rfl rfl rfl (Nat.le_of_ble_eq_true rfl) (by decide) (by decide) rfl rfl (fun rv gv Iv Rv hv => ?_)
                    obtain ⟨rfl, rfl, rfl, H1, ho, ho7⟩ := hv
                    have hU1 := H1.1.2.1
                    have hS1 := H1.1.2.2.1
                    refine q_iconst hJ (v := 0) dX11_addRule_134 (q := 135) rfl (by decide) ?_
                    refine q_aload_n hJ dX11_addRule_135 (q := 136) rfl rfl (by first | rfl | exact isR_rr _) ?_
                    refine q_getR hJ dX11_addRule_136 (q := 139) rfl fl_X11_7 rfl (by first | exact ka317 | exact ka318 | exact ka319 | exact ka320 | exact ka321 | exact ka322) (by assumption) rfl ?_
                    refine q_bipush hJ (v := 81) dX11_addRule_139 (q := 141) rfl (by decide) ?_
                    refine q_iald hJ dX11_addRule_141 (q := 142) rfl (by first | exact ka317 | exact ka318 | exact ka319 | exact ka320 | exact ka321 | exact ka322) (ixE (j := 0 + 81) (by ((try simp only [nIl_add, nI_mul, nIl_0, nIl_1, nIl_2, nIl_3, nIl_4, nIl_5, nIl_6, nIl_7, nIl_8, nIl_9, nIl_10, nIl_11, nIl_12, nIl_20, nIl_60, nIl_72, nIl_80, nIl_81, nIl_82, nIl_99, nIl_100, nIl_226, nIl_227, nIl_228, nIl_229, nIl_230, nIl_231, nIl_232, nIl_233, nIl_413, nIl_1239, nIl_10000]) <;> first | done | rfl | exact congrArg nI (by omega))) (by decide) (by decide)) hU1.1 ?_
                    refine q_callS hJ dX11_addRule_142 (q := 145) rfl (M_ruleAt 0 (aM A) _ R) imX11_ruleAt ln_X11_40 rfl rfl rfl (Nat.le_of_ble_eq_true rfl) (by decide) (by decide) rfl rfl (fun rv gv Iv Rv hv => ?_)
                    obtain ⟨rfl, rfl, rfl, rfl⟩ := hv
                    refine q_istore hJ dX11_addRule_145 (q := 147) rfl (by decide) ?_
                    refine q_aload_n hJ dX11_addRule_147 (q := 148) rfl rfl (by first | rfl | exact isR_rr _) ?_
                    refine q_getR hJ dX11_addRule_148 (q := 151) rfl fl_X11_7 rfl (by first | exact ka317 | exact ka318 | exact ka319 | exact ka320 | exact ka321 | exact ka322) (by assumption) rfl ?_
                    refine q_iload hJ dX11_addRule_151 (q := 153) rfl rfl ?_
                    refine q_iconst hJ (v := 0) dX11_addRule_153 (q := 154) rfl (by decide) ?_
                    refine q_iadd hJ dX11_addRule_154 (q := 155) rfl ?_
                    refine q_iload_n hJ dX11_addRule_155 (q := 156) rfl rfl ?_
                    refine q_iast hJ dX11_addRule_156 (q := 157) rfl (by first | exact ka317 | exact ka318 | exact ka319 | exact ka320 | exact ka321 | exact ka322) (ixE (j := 0 + 82 + 12 * aM A + 0) (by ((try simp only [nIl_add, nI_mul, nIl_0, nIl_1, nIl_2, nIl_3, nIl_4, nIl_5, nIl_6, nIl_7, nIl_8, nIl_9, nIl_10, nIl_11, nIl_12, nIl_20, nIl_60, nIl_72, nIl_80, nIl_81, nIl_82, nIl_99, nIl_100, nIl_226, nIl_227, nIl_228, nIl_229, nIl_230, nIl_231, nIl_232, nIl_233, nIl_413, nIl_1239, nIl_10000]) <;> first | done | rfl | exact congrArg nI (by omega))) (by omega) (by decide)) ?_
                    refine q_aload_n hJ dX11_addRule_157 (q := 158) rfl rfl (by first | rfl | exact isR_rr _) ?_
                    refine q_getR hJ dX11_addRule_158 (q := 161) rfl fl_X11_7 rfl (by first | exact ka317 | exact ka318 | exact ka319 | exact ka320 | exact ka321 | exact ka322) (by assumption) rfl ?_
                    refine q_iload hJ dX11_addRule_161 (q := 163) rfl rfl ?_
                    refine q_iconst hJ (v := 1) dX11_addRule_163 (q := 164) rfl (by decide) ?_
                    refine q_iadd hJ dX11_addRule_164 (q := 165) rfl ?_
                    refine q_iload_n hJ dX11_addRule_165 (q := 166) rfl rfl ?_
                    refine q_iast hJ dX11_addRule_166 (q := 167) rfl (by first | exact ka317 | exact ka318 | exact ka319 | exact ka320 | exact ka321 | exact ka322) (ixE (j := 0 + 82 + 12 * aM A + 1) (by ((try simp only [nIl_add, nI_mul, nIl_0, nIl_1, nIl_2, nIl_3, nIl_4, nIl_5, nIl_6, nIl_7, nIl_8, nIl_9, nIl_10, nIl_11, nIl_12, nIl_20, nIl_60, nIl_72, nIl_80, nIl_81, nIl_82, nIl_99, nIl_100, nIl_226, nIl_227, nIl_228, nIl_229, nIl_230, nIl_231, nIl_232, nIl_233, nIl_413, nIl_1239, nIl_10000]) <;> first | done | rfl | exact congrArg nI (by omega))) (by omega) (by decide)) ?_
                    refine q_aload_n hJ dX11_addRule_167 (q := 168) rfl rfl (by first | rfl | exact isR_rr _) ?_
                    refine q_getR hJ dX11_addRule_168 (q := 171) rfl fl_X11_7 rfl (by first | exact ka317 | exact ka318 | exact ka319 | exact ka320 | exact ka321 | exact ka322) (by assumption) rfl ?_
                    refine q_iload hJ dX11_addRule_171 (q := 173) rfl rfl ?_
                    refine q_iconst hJ (v := 2) dX11_addRule_173 (q := 174) rfl (by decide) ?_
                    refine q_iadd hJ dX11_addRule_174 (q := 175) rfl ?_
                    refine q_iload_n hJ dX11_addRule_175 (q := 176) rfl rfl ?_
                    refine q_iast hJ dX11_addRule_176 (q := 177) rfl (by first | exact ka317 | exact ka318 | exact ka319 | exact ka320 | exact ka321 | exact ka322) (ixE (j := 0 + 82 + 12 * aM A + 2) (by ((try simp only [nIl_add, nI_mul, nIl_0, nIl_1, nIl_2, nIl_3, nIl_4, nIl_5, nIl_6, nIl_7, nIl_8, nIl_9, nIl_10, nIl_11, nIl_12, nIl_20, nIl_60, nIl_72, nIl_80, nIl_81, nIl_82, nIl_99, nIl_100, nIl_226, nIl_227, nIl_228, nIl_229, nIl_230, nIl_231, nIl_232, nIl_233, nIl_413, nIl_1239, nIl_10000]) <;> first | done | rfl | exact congrArg nI (by omega))) (by omega) (by decide)) ?_
                    refine q_aload_n hJ dX11_addRule_177 (q := 178) rfl rfl (by first | rfl | exact isR_rr _) ?_
                    refine q_getR hJ dX11_addRule_178 (q := 181) rfl fl_X11_7 rfl (by first | exact ka317 | exact ka318 | exact ka319 | exact ka320 | exact ka321 | exact ka322) (by assumption) rfl ?_
                    refine q_iload hJ dX11_addRule_181 (q := 183) rfl rfl ?_
                    refine q_iconst hJ (v := 3) dX11_addRule_183 (q := 184) rfl (by decide) ?_
                    refine q_iadd hJ dX11_addRule_184 (q := 185) rfl ?_
                    refine q_iload hJ dX11_addRule_185 (q := 187) rfl rfl ?_
                    refine q_iast hJ dX11_addRule_187 (q := 188) rfl (by first | exact ka317 | exact ka318 | exact ka319 | exact ka320 | exact ka321 | exact ka322) (ixE (j := 0 + 82 + 12 * aM A + 3) (by ((try simp only [nIl_add, nI_mul, nIl_0, nIl_1, nIl_2, nIl_3, nIl_4, nIl_5, nIl_6, nIl_7, nIl_8, nIl_9, nIl_10, nIl_11, nIl_12, nIl_20, nIl_60, nIl_72, nIl_80, nIl_81, nIl_82, nIl_99, nIl_100, nIl_226, nIl_227, nIl_228, nIl_229, nIl_230, nIl_231, nIl_232, nIl_233, nIl_413, nIl_1239, nIl_10000]) <;> first | done | rfl | exact congrArg nI (by omega))) (by omega) (by decide)) ?_
                    refine q_aload_n hJ dX11_addRule_188 (q := 189) rfl rfl (by first | rfl | exact isR_rr _) ?_
                    refine q_getR hJ dX11_addRule_189 (q := 192) rfl fl_X11_7 rfl (by first | exact ka317 | exact ka318 | exact ka319 | exact ka320 | exact ka321 | exact ka322) (by assumption) rfl ?_
                    refine q_iload hJ dX11_addRule_192 (q := 194) rfl rfl ?_
                    refine q_iconst hJ (v := 4) dX11_addRule_194 (q := 195) rfl (by decide) ?_
                    refine q_iadd hJ dX11_addRule_195 (q := 196) rfl ?_
                    refine q_iload hJ dX11_addRule_196 (q := 198) rfl rfl ?_
                    refine q_iast hJ dX11_addRule_198 (q := 199) rfl (by first | exact ka317 | exact ka318 | exact ka319 | exact ka320 | exact ka321 | exact ka322) (ixE (j := 0 + 82 + 12 * aM A + 4) (by ((try simp only [nIl_add, nI_mul, nIl_0, nIl_1, nIl_2, nIl_3, nIl_4, nIl_5, nIl_6, nIl_7, nIl_8, nIl_9, nIl_10, nIl_11, nIl_12, nIl_20, nIl_60, nIl_72, nIl_80, nIl_81, nIl_82, nIl_99, nIl_100, nIl_226, nIl_227, nIl_228, nIl_229, nIl_230, nIl_231, nIl_232, nIl_233, nIl_413, nIl_1239, nIl_10000]) <;> first | done | rfl | exact congrArg nI (by omega))) (by omega) (by decide)) ?_
                    refine q_aload_n hJ dX11_addRule_199 (q := 200) rfl rfl (by first | rfl | exact isR_rr _) ?_
                    refine q_getR hJ dX11_addRule_200 (q := 203) rfl fl_X11_7 rfl (by first | exact ka317 | exact ka318 | exact ka319 | exact ka320 | exact ka321 | exact ka322) (by assumption) rfl ?_
                    refine q_iload hJ dX11_addRule_203 (q := 205) rfl rfl ?_
                    refine q_iconst hJ (v := 5) dX11_addRule_205 (q := 206) rfl (by decide) ?_
                    refine q_iadd hJ dX11_addRule_206 (q := 207) rfl ?_
                    refine q_iload hJ dX11_addRule_207 (q := 209) rfl rfl ?_
                    refine q_iast hJ dX11_addRule_209 (q := 210) rfl (by first | exact ka317 | exact ka318 | exact ka319 | exact ka320 | exact ka321 | exact ka322) (ixE (j := 0 + 82 + 12 * aM A + 5) (by ((try simp only [nIl_add, nI_mul, nIl_0, nIl_1, nIl_2, nIl_3, nIl_4, nIl_5, nIl_6, nIl_7, nIl_8, nIl_9, nIl_10, nIl_11, nIl_12, nIl_20, nIl_60, nIl_72, nIl_80, nIl_81, nIl_82, nIl_99, nIl_100, nIl_226, nIl_227, nIl_228, nIl_229, nIl_230, nIl_231, nIl_232, nIl_233, nIl_413, nIl_1239, nIl_10000]) <;> first | done | rfl | exact congrArg nI (by omega))) (by omega) (by decide)) ?_
                    refine q_aload_n hJ dX11_addRule_210 (q := 211) rfl rfl (by first | rfl | exact isR_rr _) ?_
                    refine q_getR hJ dX11_addRule_211 (q := 214) rfl fl_X11_7 rfl (by first | exact ka317 | exact ka318 | exact ka319 | exact ka320 | exact ka321 | exact ka322) (by assumption) rfl ?_
                    refine q_iload hJ dX11_addRule_214 (q := 216) rfl rfl ?_
                    refine q_bipush hJ (v := 6) dX11_addRule_216 (q := 218) rfl (by decide) ?_
                    refine q_iadd hJ dX11_addRule_218 (q := 219) rfl ?_
                    refine q_iload hJ dX11_addRule_219 (q := 221) rfl rfl ?_
                    refine q_iast hJ dX11_addRule_221 (q := 222) rfl (by first | exact ka317 | exact ka318 | exact ka319 | exact ka320 | exact ka321 | exact ka322) (ixE (j := 0 + 82 + 12 * aM A + 6) (by ((try simp only [nIl_add, nI_mul, nIl_0, nIl_1, nIl_2, nIl_3, nIl_4, nIl_5, nIl_6, nIl_7, nIl_8, nIl_9, nIl_10, nIl_11, nIl_12, nIl_20, nIl_60, nIl_72, nIl_80, nIl_81, nIl_82, nIl_99, nIl_100, nIl_226, nIl_227, nIl_228, nIl_229, nIl_230, nIl_231, nIl_232, nIl_233, nIl_413, nIl_1239, nIl_10000]) <;> first | done | rfl | exact congrArg nI (by omega))) (by omega) (by decide)) ?_
                    refine q_aload_n hJ dX11_addRule_222 (q := 223) rfl rfl (by first | rfl | exact isR_rr _) ?_
                    refine q_getR hJ dX11_addRule_223 (q := 226) rfl fl_X11_7 rfl (by first | exact ka317 | exact ka318 | exact ka319 | exact ka320 | exact ka321 | exact ka322) (by assumption) rfl ?_
                    refine q_iload hJ dX11_addRule_226 (q := 228) rfl rfl ?_
                    refine q_bipush hJ (v := 7) dX11_addRule_228 (q := 230) rfl (by decide) ?_
                    refine q_iadd hJ dX11_addRule_230 (q := 231) rfl ?_
                    refine q_iconst hJ (v := 3) dX11_addRule_231 (q := 232) rfl (by decide) ?_
                    refine q_iast hJ dX11_addRule_232 (q := 233) rfl (by first | exact ka317 | exact ka318 | exact ka319 | exact ka320 | exact ka321 | exact ka322) (ixE (j := 0 + 82 + 12 * aM A + 7) (by ((try simp only [nIl_add, nI_mul, nIl_0, nIl_1, nIl_2, nIl_3, nIl_4, nIl_5, nIl_6, nIl_7, nIl_8, nIl_9, nIl_10, nIl_11, nIl_12, nIl_20, nIl_60, nIl_72, nIl_80, nIl_81, nIl_82, nIl_99, nIl_100, nIl_226, nIl_227, nIl_228, nIl_229, nIl_230, nIl_231, nIl_232, nIl_233, nIl_413, nIl_1239, nIl_10000]) <;> first | done | rfl | exact congrArg nI (by omega))) (by omega) (by decide)) ?_
                    refine q_aload_n hJ dX11_addRule_233 (q := 234) rfl rfl (by first | rfl | exact isR_rr _) ?_
                    refine q_getR hJ dX11_addRule_234 (q := 237) rfl fl_X11_7 rfl (by first | exact ka317 | exact ka318 | exact ka319 | exact ka320 | exact ka321 | exact ka322) (by assumption) rfl ?_
                    refine q_iload hJ dX11_addRule_237 (q := 239) rfl rfl ?_
                    refine q_bipush hJ (v := 8) dX11_addRule_239 (q := 241) rfl (by decide) ?_
                    refine q_iadd hJ dX11_addRule_241 (q := 242) rfl ?_
                    refine q_iconst hJ (v := 4) dX11_addRule_242 (q := 243) rfl (by decide) ?_
                    refine q_iast hJ dX11_addRule_243 (q := 244) rfl (by first | exact ka317 | exact ka318 | exact ka319 | exact ka320 | exact ka321 | exact ka322) (ixE (j := 0 + 82 + 12 * aM A + 8) (by ((try simp only [nIl_add, nI_mul, nIl_0, nIl_1, nIl_2, nIl_3, nIl_4, nIl_5, nIl_6, nIl_7, nIl_8, nIl_9, nIl_10, nIl_11, nIl_12, nIl_20, nIl_60, nIl_72, nIl_80, nIl_81, nIl_82, nIl_99, nIl_100, nIl_226, nIl_227, nIl_228, nIl_229, nIl_230, nIl_231, nIl_232, nIl_233, nIl_413, nIl_1239, nIl_10000]) <;> first | done | rfl | exact congrArg nI (by omega))) (by omega) (by decide)) ?_
                    refine q_aload_n hJ dX11_addRule_244 (q := 245) rfl rfl (by first | rfl | exact isR_rr _) ?_
                    refine q_getR hJ dX11_addRule_245 (q := 248) rfl fl_X11_7 rfl (by first | exact ka317 | exact ka318 | exact ka319 | exact ka320 | exact ka321 | exact ka322) (by assumption) rfl ?_
                    refine q_iload hJ dX11_addRule_248 (q := 250) rfl rfl ?_
                    refine q_bipush hJ (v := 9) dX11_addRule_250 (q := 252) rfl (by decide) ?_
                    refine q_iadd hJ dX11_addRule_252 (q := 253) rfl ?_
                    refine q_iconst hJ (v := 0) dX11_addRule_253 (q := 254) rfl (by decide) ?_
                    refine q_iast hJ dX11_addRule_254 (q := 255) rfl (by first | exact ka317 | exact ka318 | exact ka319 | exact ka320 | exact ka321 | exact ka322) (ixE (j := 0 + 82 + 12 * aM A + 9) (by ((try simp only [nIl_add, nI_mul, nIl_0, nIl_1, nIl_2, nIl_3, nIl_4, nIl_5, nIl_6, nIl_7, nIl_8, nIl_9, nIl_10, nIl_11, nIl_12, nIl_20, nIl_60, nIl_72, nIl_80, nIl_81, nIl_82, nIl_99, nIl_100, nIl_226, nIl_227, nIl_228, nIl_229, nIl_230, nIl_231, nIl_232, nIl_233, nIl_413, nIl_1239, nIl_10000]) <;> first | done | rfl | exact congrArg nI (by omega))) (by omega) (by decide)) ?_
                    refine q_aload_n hJ dX11_addRule_255 (q := 256) rfl rfl (by first | rfl | exact isR_rr _) ?_
                    refine q_getR hJ dX11_addRule_256 (q := 259) rfl fl_X11_7 rfl (by first | exact ka317 | exact ka318 | exact ka319 | exact ka320 | exact ka321 | exact ka322) (by assumption) rfl ?_
                    refine q_iload hJ dX11_addRule_259 (q := 261) rfl rfl ?_
                    refine q_bipush hJ (v := 10) dX11_addRule_261 (q := 263) rfl (by decide) ?_
                    refine q_iadd hJ dX11_addRule_263 (q := 264) rfl ?_
                    refine q_iconst hJ (v := 1) dX11_addRule_264 (q := 265) rfl (by decide) ?_
                    refine q_iast hJ dX11_addRule_265 (q := 266) rfl (by first | exact ka317 | exact ka318 | exact ka319 | exact ka320 | exact ka321 | exact ka322) (ixE (j := 0 + 82 + 12 * aM A + 10) (by ((try simp only [nIl_add, nI_mul, nIl_0, nIl_1, nIl_2, nIl_3, nIl_4, nIl_5, nIl_6, nIl_7, nIl_8, nIl_9, nIl_10, nIl_11, nIl_12, nIl_20, nIl_60, nIl_72, nIl_80, nIl_81, nIl_82, nIl_99, nIl_100, nIl_226, nIl_227, nIl_228, nIl_229, nIl_230, nIl_231, nIl_232, nIl_233, nIl_413, nIl_1239, nIl_10000]) <;> first | done | rfl | exact congrArg nI (by omega))) (by omega) (by decide)) ?_
                    refine q_aload_n hJ dX11_addRule_266 (q := 267) rfl rfl (by first | rfl | exact isR_rr _) ?_
                    refine q_getR hJ dX11_addRule_267 (q := 270) rfl fl_X11_7 rfl (by first | exact ka317 | exact ka318 | exact ka319 | exact ka320 | exact ka321 | exact ka322) (by assumption) rfl ?_
                    refine q_iload hJ dX11_addRule_270 (q := 272) rfl rfl ?_
                    refine q_bipush hJ (v := 11) dX11_addRule_272 (q := 274) rfl (by decide) ?_
                    refine q_iadd hJ dX11_addRule_274 (q := 275) rfl ?_
                    refine q_iconst hJ (v := 0) dX11_addRule_275 (q := 276) rfl (by decide) ?_
                    refine q_iast hJ dX11_addRule_276 (q := 277) rfl (by first | exact ka317 | exact ka318 | exact ka319 | exact ka320 | exact ka321 | exact ka322) (ixE (j := 0 + 82 + 12 * aM A + 11) (by ((try simp only [nIl_add, nI_mul, nIl_0, nIl_1, nIl_2, nIl_3, nIl_4, nIl_5, nIl_6, nIl_7, nIl_8, nIl_9, nIl_10, nIl_11, nIl_12, nIl_20, nIl_60, nIl_72, nIl_80, nIl_81, nIl_82, nIl_99, nIl_100, nIl_226, nIl_227, nIl_228, nIl_229, nIl_230, nIl_231, nIl_232, nIl_233, nIl_413, nIl_1239, nIl_10000]) <;> first | done | rfl | exact congrArg nI (by omega))) (by omega) (by decide)) ?_
                    refine q_aload_n hJ dX11_addRule_277 (q := 278) rfl rfl (by first | rfl | exact isR_rr _) ?_
                    refine q_getR hJ dX11_addRule_278 (q := 281) rfl fl_X11_7 rfl (by first | exact ka317 | exact ka318 | exact ka319 | exact ka320 | exact ka321 | exact ka322) (by assumption) rfl ?_
                    refine q_bipush hJ (v := 81) dX11_addRule_281 (q := 283) rfl (by decide) ?_
                    refine q_dup2 hJ dX11_addRule_283 (q := 284) rfl rfl rfl ?_
                    refine q_iald hJ dX11_addRule_284 (q := 285) rfl (by first | exact ka317 | exact ka318 | exact ka319 | exact ka320 | exact ka321 | exact ka322) (ixE (j := 0 + 81) (by ((try simp only [nIl_add, nI_mul, nIl_0, nIl_1, nIl_2, nIl_3, nIl_4, nIl_5, nIl_6, nIl_7, nIl_8, nIl_9, nIl_10, nIl_11, nIl_12, nIl_20, nIl_60, nIl_72, nIl_80, nIl_81, nIl_82, nIl_99, nIl_100, nIl_226, nIl_227, nIl_228, nIl_229, nIl_230, nIl_231, nIl_232, nIl_233, nIl_413, nIl_1239, nIl_10000]) <;> first | done | rfl | exact congrArg nI (by omega))) (by decide) (by decide)) (show _ = nI (aM A) by rw [up2_i (by omega), up2_i (by omega), up2_i (by omega), up2_i (by omega), up2_i (by omega), up2_i (by omega), up2_i (by omega), up2_i (by omega), up2_i (by omega), up2_i (by omega), up2_i (by omega), up2_i (by omega)]; exact hU1.1) ?_
                    refine q_iconst hJ (v := 1) dX11_addRule_285 (q := 286) rfl (by decide) ?_
                    refine q_iadd hJ dX11_addRule_286 (q := 287) rfl ?_
                    rw [show nI (aM A) + 1 = nI (aM A + 1) from nI_1 _]
                    refine q_iast hJ dX11_addRule_287 (q := 288) rfl (by first | exact ka317 | exact ka318 | exact ka319 | exact ka320 | exact ka321 | exact ka322) (ixE (j := 0 + 81) (by ((try simp only [nIl_add, nI_mul, nIl_0, nIl_1, nIl_2, nIl_3, nIl_4, nIl_5, nIl_6, nIl_7, nIl_8, nIl_9, nIl_10, nIl_11, nIl_12, nIl_20, nIl_60, nIl_72, nIl_80, nIl_81, nIl_82, nIl_99, nIl_100, nIl_226, nIl_227, nIl_228, nIl_229, nIl_230, nIl_231, nIl_232, nIl_233, nIl_413, nIl_1239, nIl_10000]) <;> first | done | rfl | exact congrArg nI (by omega))) (by decide) (by decide)) ?_
                    refine q_aload_n hJ dX11_addRule_288 (q := 289) rfl rfl (by first | rfl | exact isR_rr _) ?_
                    refine q_getR hJ dX11_addRule_289 (q := 292) rfl fl_X11_7 rfl (by first | exact ka317 | exact ka318 | exact ka319 | exact ka320 | exact ka321 | exact ka322) (by assumption) rfl ?_
                    refine q_bipush hJ (v := 81) dX11_addRule_292 (q := 294) rfl (by decide) ?_
                    refine q_iald hJ dX11_addRule_294 (q := 295) rfl (by first | exact ka317 | exact ka318 | exact ka319 | exact ka320 | exact ka321 | exact ka322) (ixE (j := 0 + 81) (by ((try simp only [nIl_add, nI_mul, nIl_0, nIl_1, nIl_2, nIl_3, nIl_4, nIl_5, nIl_6, nIl_7, nIl_8, nIl_9, nIl_10, nIl_11, nIl_12, nIl_20, nIl_60, nIl_72, nIl_80, nIl_81, nIl_82, nIl_99, nIl_100, nIl_226, nIl_227, nIl_228, nIl_229, nIl_230, nIl_231, nIl_232, nIl_233, nIl_413, nIl_1239, nIl_10000]) <;> first | done | rfl | exact congrArg nI (by omega))) (by decide) (by decide)) (up2_self _ _ _ _) ?_
                    refine q_iconst hJ (v := 1) dX11_addRule_295 (q := 296) rfl (by decide) ?_
                    refine q_isub hJ dX11_addRule_296 (q := 297) rfl ?_
                    rw [show nI (aM A + 1) - 1 = nI (aM A) from nI_pred _]
                    refine q_iret hM dX11_addRule_297 rfl rfl ?_
                    refine ⟨iv ((if_neg hP).trans (if_pos h12)).symm, rfl, rfl, fun a ha => by rw [up2_other _ _ _ _ (by omega), up2_other _ _ _ _ (by omega), up2_other _ _ _ _ (by omega), up2_other _ _ _ _ (by omega), up2_other _ _ _ _ (by omega), up2_other _ _ _ _ (by omega), up2_other _ _ _ _ (by omega), up2_other _ _ _ _ (by omega), up2_other _ _ _ _ (by omega), up2_other _ _ _ _ (by omega), up2_other _ _ _ _ (by omega), up2_other _ _ _ _ (by omega), up2_other _ _ _ _ (by omega), ho a (by omega) (by omega)], Or.inl ⟨⟨hP, h12⟩, ?_⟩⟩
                    refine H1.rules ⟨up2_self _ _ _ _, by omega, fun q hq t ht => ?_⟩ (fun q hq => ?_) (fun a ha => by rw [up2_other _ _ _ _ ha, up2_other _ _ _ _ ha, up2_other _ _ _ _ ha, up2_other _ _ _ _ ha, up2_other _ _ _ _ ha, up2_other _ _ _ _ ha, up2_other _ _ _ _ ha, up2_other _ _ _ _ ha, up2_other _ _ _ _ ha, up2_other _ _ _ _ ha, up2_other _ _ _ _ ha, up2_other _ _ _ _ ha, up2_other _ _ _ _ ha]) (fun i hi => by rw [up2_i (by omega), up2_i (by omega), up2_i (by omega), up2_i (by omega), up2_i (by omega), up2_i (by omega), up2_i (by omega), up2_i (by omega), up2_i (by omega), up2_i (by omega), up2_i (by omega), up2_i (by omega), up2_i (by omega)])
                    · show _ = (if q = aM A then defU e m rk kd a b c else aU A q) t
                      by_cases z : q = aM A
                      · rw [if_pos z, z]
                        rcases (show t = 0 ∨ t = 1 ∨ t = 2 ∨ t = 3 ∨ t = 4 ∨ t = 5 ∨ t = 6 ∨ t = 7 ∨ t = 8 ∨ t = 9 ∨ t = 10 ∨ t = 11 by omega) with rfl | rfl | rfl | rfl | rfl | rfl | rfl | rfl | rfl | rfl | rfl | rfl
                        · rw [up2_i (by omega), up2_i (by omega), up2_i (by omega), up2_i (by omega), up2_i (by omega), up2_i (by omega), up2_i (by omega), up2_i (by omega), up2_i (by omega), up2_i (by omega), up2_i (by omega), up2_i (by omega), up2_self]; rfl
                        · rw [up2_i (by omega), up2_i (by omega), up2_i (by omega), up2_i (by omega), up2_i (by omega), up2_i (by omega), up2_i (by omega), up2_i (by omega), up2_i (by omega), up2_i (by omega), up2_i (by omega), up2_self]; rfl
                        · rw [up2_i (by omega), up2_i (by omega), up2_i (by omega), up2_i (by omega), up2_i (by omega), up2_i (by omega), up2_i (by omega), up2_i (by omega), up2_i (by omega), up2_i (by omega), up2_self]; rfl
                        · rw [up2_i (by omega), up2_i (by omega), up2_i (by omega), up2_i (by omega), up2_i (by omega), up2_i (by omega), up2_i (by omega), up2_i (by omega), up2_i (by omega), up2_self]; rfl
                        · rw [up2_i (by omega), up2_i (by omega), up2_i (by omega), up2_i (by omega), up2_i (by omega), up2_i (by omega), up2_i (by omega), up2_i (by omega), up2_self]; rfl
                        · rw [up2_i (by omega), up2_i (by omega), up2_i (by omega), up2_i (by omega), up2_i (by omega), up2_i (by omega), up2_i (by omega), up2_self]; rfl
                        · rw [up2_i (by omega), up2_i (by omega), up2_i (by omega), up2_i (by omega), up2_i (by omega), up2_i (by omega), up2_self]; rfl
                        · rw [up2_i (by omega), up2_i (by omega), up2_i (by omega), up2_i (by omega), up2_i (by omega), up2_self]; rfl
                        · rw [up2_i (by omega), up2_i (by omega), up2_i (by omega), up2_i (by omega), up2_self]; rfl
                        · rw [up2_i (by omega), up2_i (by omega), up2_i (by omega), up2_self]; rfl
                        · rw [up2_i (by omega), up2_i (by omega), up2_self]; rfl
                        · rw [up2_i (by omega), up2_self]; rfl
                      · rw [up2_i (by omega), up2_i (by omega), up2_i (by omega), up2_i (by omega), up2_i (by omega), up2_i (by omega), up2_i (by omega), up2_i (by omega), up2_i (by omega), up2_i (by omega), up2_i (by omega), up2_i (by omega), up2_i (by omega), if_neg z]; exact hU1.2.2 q (by omega) t ht
                    · show okRu (if q = aM A then defU e m rk kd a b c else aU A q)
                      by_cases z : q = aM A
                      · rw [if_pos z]
                        exact ⟨⟨inR_ne c1, inR_ne c2, in_99 c3, hk1⟩, ⟨inR_ne c5, inR_ne c6, rfl, rfl⟩, Or.inr rfl⟩
                      · rw [if_neg z]; exact okr q (by omega)
                  · refine q_sipush hJ (v := (-1003)) dX11_addRule_126 (q := 129) rfl (by decide) ?_
                    refine q_iret hM dX11_addRule_129 rfl rfl ?_
                    have h12 : ¬ aM A < 12 := fun z => by have := (nI_eq (a := aM A) (b := 12) (by omega) (by decide)).mp c8; omega
                    exact ⟨iv ((if_neg hP).trans (if_neg h12)).symm, rfl, rfl, fun _ _ => rfl, Or.inr ⟨fun z => h12 z.2, H⟩⟩
                · refine q_sipush hJ (v := (-1002)) dX11_addRule_110 (q := 113) rfl (by decide) ?_
                  refine q_iret hM dX11_addRule_113 rfl rfl ?_
                  first
                    | exact ⟨iv (if_pos (show addB e m rk kd a b c from Or.inl c1)).symm, rfl, rfl, fun _ _ => rfl, Or.inr ⟨fun z => z.1 (Or.inl c1), H⟩⟩
                    | exact ⟨iv (if_pos (show addB e m rk kd a b c from Or.inr (Or.inl c2))).symm, rfl, rfl, fun _ _ => rfl, Or.inr ⟨fun z => z.1 (Or.inr (Or.inl c2)), H⟩⟩
                    | exact ⟨iv (if_pos (show addB e m rk kd a b c from Or.inr (Or.inr (Or.inl c3)))).symm, rfl, rfl, fun _ _ => rfl, Or.inr ⟨fun z => z.1 (Or.inr (Or.inr (Or.inl c3))), H⟩⟩
                    | exact ⟨iv (if_pos (show addB e m rk kd a b c from Or.inr (Or.inr (Or.inr (Or.inr (Or.inl c5)))))).symm, rfl, rfl, fun _ _ => rfl, Or.inr ⟨fun z => z.1 (Or.inr (Or.inr (Or.inr (Or.inr (Or.inl c5))))), H⟩⟩
                    | exact ⟨iv (if_pos (show addB e m rk kd a b c from Or.inr (Or.inr (Or.inr (Or.inr (Or.inr (Or.inl c6))))))).symm, rfl, rfl, fun _ _ => rfl, Or.inr ⟨fun z => z.1 (Or.inr (Or.inr (Or.inr (Or.inr (Or.inr (Or.inl c6)))))), H⟩⟩
                    | exact ⟨iv (if_pos (show addB e m rk kd a b c from Or.inr (Or.inr (Or.inr (Or.inr (Or.inr (Or.inr c7))))))).symm, rfl, rfl, fun _ _ => rfl, Or.inr ⟨fun z => z.1 (Or.inr (Or.inr (Or.inr (Or.inr (Or.inr (Or.inr c7)))))), H⟩⟩
                    | (have hk0 : kindF m kd = 0 := hkk.elim (fun z => z.2) (fun z => absurd (z.1.symm.trans d4) (by decide))
                       exact ⟨iv (if_pos (show addB e m rk kd a b c from Or.inr (Or.inr (Or.inr (Or.inl hk0))))).symm, rfl, rfl, fun _ _ => rfl, Or.inr ⟨fun z => z.1 (Or.inr (Or.inr (Or.inr (Or.inl hk0)))), H⟩⟩)
                    | fail
  refine q_iload_n hJ dX11_addRule_0 (q := 1) rfl rfl ?_
  refine q_if_ne hJ (tgt := 14) dX11_addRule_1 (q := 4) rfl (by decide) (fun d1 => ?_) (fun d1 => ?_)
  · refine q_iload hJ dX11_addRule_14 (q := 16) rfl rfl ?_
    refine q_iconst hJ (v := 1) dX11_addRule_16 (q := 17) rfl (by decide) ?_
    refine q_icmp_eq hJ (tgt := 30) dX11_addRule_17 (q := 20) rfl (by decide) (fun d2 => ?_) (fun d2 => ?_)
    · refine q_iconst hJ (v := 1) dX11_addRule_30 (q := 31) rfl (by decide) ?_
      refine q_goto hJ (tgt := 35) dX11_addRule_31 (by decide) ?_
      refine q_istore hJ dX11_addRule_35 (q := 37) rfl (by decide) ?_
      first
        | exact rest (inR kd 0 2) ((inR_01 kd 0 2).elim (fun z => Or.inl ⟨z, (kF0 d1).trans z⟩) (fun z => Or.inr ⟨z, (kF0 d1).trans z⟩))
        | exact rest 0 (Or.inl ⟨rfl, ((kF0 d1).trans d3)⟩)
        | exact rest 1 (Or.inr ⟨rfl, ((kF0 d1).trans (inR_ne d3))⟩)
        | exact rest 1 (Or.inr ⟨rfl, (kF1 d1 d2)⟩)
        | exact rest 0 (Or.inl ⟨rfl, ((kF2 d1 d2).trans d3)⟩)
        | exact rest 1 (Or.inr ⟨rfl, ((kF2 d1 d2).trans (inR_ne d3))⟩)
        | fail
    · refine q_iload hJ dX11_addRule_20 (q := 22) rfl rfl ?_
      refine q_iconst hJ (v := 3) dX11_addRule_22 (q := 23) rfl (by decide) ?_
      refine q_iconst hJ (v := 5) dX11_addRule_23 (q := 24) rfl (by decide) ?_
      refine q_callS hJ dX11_addRule_24 (q := 27) rfl (M_in kd 3 5 I R) imX11_in ln_X11_25 rfl rfl rfl (Nat.le_of_ble_eq_true rfl) (by decide) (by decide) rfl rfl (fun rv gv Iv Rv hv => ?_)
      obtain ⟨rfl, rfl, rfl, rfl⟩ := hv
      refine q_if_eq hJ (tgt := 34) dX11_addRule_27 (q := 30) rfl (by decide) (fun d3 => ?_) (fun d3 => ?_)
      · refine q_iconst hJ (v := 0) dX11_addRule_34 (q := 35) rfl (by decide) ?_
        refine q_istore hJ dX11_addRule_35 (q := 37) rfl (by decide) ?_
        first
          | exact rest (inR kd 0 2) ((inR_01 kd 0 2).elim (fun z => Or.inl ⟨z, (kF0 d1).trans z⟩) (fun z => Or.inr ⟨z, (kF0 d1).trans z⟩))
          | exact rest 0 (Or.inl ⟨rfl, ((kF0 d1).trans d3)⟩)
          | exact rest 1 (Or.inr ⟨rfl, ((kF0 d1).trans (inR_ne d3))⟩)
          | exact rest 1 (Or.inr ⟨rfl, (kF1 d1 d2)⟩)
          | exact rest 0 (Or.inl ⟨rfl, ((kF2 d1 d2).trans d3)⟩)
          | exact rest 1 (Or.inr ⟨rfl, ((kF2 d1 d2).trans (inR_ne d3))⟩)
          | fail
      · refine q_iconst hJ (v := 1) dX11_addRule_30 (q := 31) rfl (by decide) ?_
        refine q_goto hJ (tgt := 35) dX11_addRule_31 (by decide) ?_
        refine q_istore hJ dX11_addRule_35 (q := 37) rfl (by decide) ?_
        first
          | exact rest (inR kd 0 2) ((inR_01 kd 0 2).elim (fun z => Or.inl ⟨z, (kF0 d1).trans z⟩) (fun z => Or.inr ⟨z, (kF0 d1).trans z⟩))
          | exact rest 0 (Or.inl ⟨rfl, ((kF0 d1).trans d3)⟩)
          | exact rest 1 (Or.inr ⟨rfl, ((kF0 d1).trans (inR_ne d3))⟩)
          | exact rest 1 (Or.inr ⟨rfl, (kF1 d1 d2)⟩)
          | exact rest 0 (Or.inl ⟨rfl, ((kF2 d1 d2).trans d3)⟩)
          | exact rest 1 (Or.inr ⟨rfl, ((kF2 d1 d2).trans (inR_ne d3))⟩)
          | fail
  · refine q_iload hJ dX11_addRule_4 (q := 6) rfl rfl ?_
    refine q_iconst hJ (v := 0) dX11_addRule_6 (q := 7) rfl (by decide) ?_
    refine q_iconst hJ (v := 2) dX11_addRule_7 (q := 8) rfl (by decide) ?_
    refine q_callS hJ dX11_addRule_8 (q := 11) rfl (M_in kd 0 2 I R) imX11_in ln_X11_25 rfl rfl rfl (Nat.le_of_ble_eq_true rfl) (by decide) (by decide) rfl rfl (fun rv gv Iv Rv hv => ?_)
    obtain ⟨rfl, rfl, rfl, rfl⟩ := hv
    refine q_goto hJ (tgt := 35) dX11_addRule_11 (by decide) ?_
    refine q_istore hJ dX11_addRule_35 (q := 37) rfl (by decide) ?_
    first
      | exact rest (inR kd 0 2) ((inR_01 kd 0 2).elim (fun z => Or.inl ⟨z, (kF0 d1).trans z⟩) (fun z => Or.inr ⟨z, (kF0 d1).trans z⟩))
      | exact rest 0 (Or.inl ⟨rfl, ((kF0 d1).trans d3)⟩)
      | exact rest 1 (Or.inr ⟨rfl, ((kF0 d1).trans (inR_ne d3))⟩)
      | exact rest 1 (Or.inr ⟨rfl, (kF1 d1 d2)⟩)
      | exact rest 0 (Or.inl ⟨rfl, ((kF2 d1 d2).trans d3)⟩)
      | exact rest 1 (Or.inr ⟨rfl, ((kF2 d1 d2).trans (inR_ne d3))⟩)
      | fail

