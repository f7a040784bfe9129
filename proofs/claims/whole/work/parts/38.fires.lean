/-! THE MODEL: firing, values, counting -/
theorem iv1 {P : Prop} [Decidable P] (h : P) : some (Value.int 1) = some (Value.int (if P then 1 else 0)) := by rw [if_pos h]
theorem iv0 {P : Prop} [Decidable P] (h : ¬ P) : some (Value.int 0) = some (Value.int (if P then 1 else 0)) := by rw [if_neg h]
theorem clamp_lo {v : Int32} (h : v < -999) : clampF v = -999 := by
  unfold clampF
  rw [Int32.lt_iff_toInt_lt, show (-999 : Int32).toInt = -999 from rfl] at h
  rw [if_pos (show v < 999 by rw [Int32.lt_iff_toInt_lt, show (999 : Int32).toInt = 999 from rfl]; omega)]
  rw [if_neg (show ¬ (-999 : Int32) < v by rw [Int32.lt_iff_toInt_lt, show (-999 : Int32).toInt = -999 from rfl]; omega)]
theorem clamp_hi {v : Int32} (h : 999 < v) : clampF v = 999 := by
  unfold clampF
  rw [if_neg (fun z => Int32.lt_asymm h z), if_pos (by decide)]
theorem clamp_in {v : Int32} (h1 : ¬ v < -999) (h2 : ¬ 999 < v) : clampF v = v := by
  unfold clampF
  have a1 := Int32.not_lt.mp h1
  have a2 := Int32.not_lt.mp h2
  have e : (if v < 999 then v else 999) = v := by
    by_cases z : v < 999
    · rw [if_pos z]
    · rw [if_neg z]; exact Int32.le_antisymm (Int32.not_lt.mp z) a2
  rw [e]
  by_cases z : -999 < v
  · rw [if_pos z]
  · rw [if_neg z]; exact Int32.le_antisymm a1 (Int32.not_lt.mp z)
theorem up2_i {I : MI} {c k : Nat} {v : Int32} {c' k' : Nat} (h : ¬ (c' = c ∧ k' = k)) : up2 I c k v c' k' = I c' k' := if_neg h
set_option maxRecDepth 100000 in
set_option maxHeartbeats 400000 in
theorem M_fires (p d r m : Nat) (hp : p ≤ 413) (h1 : 1 ≤ d) (hd : d < 9) (U : Nat → Nat → Int32) (S : Nat → Int32) (img : Nat → Int32) (cs : List Nat) (I : MI) (R : MR) (hFR : FR R) (hU : RuW (I 318) p U m) (hr : r < m) (ok : okRu (U r)) (hS : SetQ (I 318) p S) (hi : ∀ t, t < 4 → I 322 (8 * d + 1 + t) = img t) (hcs : (∃ k, 2 ≤ k ∧ k < d + 1 ∧ I 322 (8 * k + 7) = nI r) ↔ r ∈ cs) : Sp 2 0 0 mX11_fires [.ref 317, .int (nI p), .int (nI r), .int (nI d)] g0 I R (Mv (if U r 10 = 1 ∧ ¬ (S 1 = 1 ∧ r ∈ cs) ∧ cmpF (U r 8) (rowF img (U r 7)) (U r 9) = 1 then 1 else 0) I R) := by
  have hm0 := hFR.2.2.2.2.2.1
  have hm1 := hFR.2.2.2.2.2.2.1
  have hm3 := hFR.2.2.2.2.2.2.2.1
  have hm5 := hFR.2.2.2.2.2.2.2.2.1
  have hm7 := hFR.2.2.2.2.2.2.2.2.2
  have hm := hU.2.1
  refine Sp.on (by decide +kernel) rfl rfl (fun J hM => ?_)
  have hJ := hM.ok
  refine q_iload_n hJ dX11_fires_0 (q := 1) rfl rfl ?_
  refine q_iload_n hJ dX11_fires_1 (q := 2) rfl rfl ?_
  refine q_callS hJ dX11_fires_2 (q := 5) rfl (M_ruleAt p r I R) imX11_ruleAt ln_X11_40 rfl rfl rfl (Nat.le_of_ble_eq_true rfl) (by decide) (by decide) rfl rfl (fun rv gv Iv Rv hv => ?_)
  obtain ⟨rfl, rfl, rfl, rfl⟩ := hv
  refine q_istore hJ dX11_fires_5 (q := 7) rfl (by decide) ?_
  refine q_aload_n hJ dX11_fires_7 (q := 8) rfl rfl (by first | rfl | exact isR_rr _) ?_
  refine q_getR hJ dX11_fires_8 (q := 11) rfl fl_X11_7 rfl (by first | exact ka317 | exact ka318 | exact ka319 | exact ka320 | exact ka321 | exact ka322) (by assumption) rfl ?_
  refine q_iload_n hJ dX11_fires_11 (q := 12) rfl rfl ?_
  refine q_sipush hJ (v := 227) dX11_fires_12 (q := 15) rfl (by decide) ?_
  refine q_iadd hJ dX11_fires_15 (q := 16) rfl ?_
  refine q_iald hJ dX11_fires_16 (q := 17) rfl (by first | exact ka317 | exact ka318 | exact ka319 | exact ka320 | exact ka321 | exact ka322) (ixE (j := p + 227) (by ((try simp only [nIl_add, nI_mul, nIl_0, nIl_1, nIl_2, nIl_3, nIl_4, nIl_5, nIl_6, nIl_7, nIl_8, nIl_9, nIl_10, nIl_11, nIl_12, nIl_20, nIl_60, nIl_72, nIl_80, nIl_81, nIl_82, nIl_99, nIl_100, nIl_226, nIl_227, nIl_228, nIl_229, nIl_230, nIl_231, nIl_232, nIl_233, nIl_413, nIl_1239, nIl_10000]) <;> first | done | rfl | exact congrArg nI (by omega))) (by omega) (by decide)) (hS 1 (by decide)) ?_
  refine q_iconst hJ (v := 1) dX11_fires_17 (q := 18) rfl (by decide) ?_
  refine q_icmp_ne hJ (tgt := 34) dX11_fires_18 (q := 21) rfl (by decide) (fun c1 => ?_) (fun c1 => ?_)
  · refine q_iconst hJ (v := 0) dX11_fires_34 (q := 35) rfl (by decide) ?_
    refine q_istore hJ dX11_fires_35 (q := 37) rfl (by decide) ?_
    refine q_aload_n hJ dX11_fires_37 (q := 38) rfl rfl (by first | rfl | exact isR_rr _) ?_
    refine q_iload_n hJ dX11_fires_38 (q := 39) rfl rfl ?_
    refine q_aload_n hJ dX11_fires_39 (q := 40) rfl rfl (by first | rfl | exact isR_rr _) ?_
    refine q_getR hJ dX11_fires_40 (q := 43) rfl fl_X11_7 rfl (by first | exact ka317 | exact ka318 | exact ka319 | exact ka320 | exact ka321 | exact ka322) (by assumption) rfl ?_
    refine q_iload hJ dX11_fires_43 (q := 45) rfl rfl ?_
    refine q_bipush hJ (v := 7) dX11_fires_45 (q := 47) rfl (by decide) ?_
    refine q_iadd hJ dX11_fires_47 (q := 48) rfl ?_
    refine q_iald hJ dX11_fires_48 (q := 49) rfl (by first | exact ka317 | exact ka318 | exact ka319 | exact ka320 | exact ka321 | exact ka322) (ixE (j := p + 82 + 12 * r + 7) (by ((try simp only [nIl_add, nI_mul, nIl_0, nIl_1, nIl_2, nIl_3, nIl_4, nIl_5, nIl_6, nIl_7, nIl_8, nIl_9, nIl_10, nIl_11, nIl_12, nIl_20, nIl_60, nIl_72, nIl_80, nIl_81, nIl_82, nIl_99, nIl_100, nIl_226, nIl_227, nIl_228, nIl_229, nIl_230, nIl_231, nIl_232, nIl_233, nIl_413, nIl_1239, nIl_10000]) <;> first | done | rfl | exact congrArg nI (by omega))) (by omega) (by decide)) (hU.2.2 r hr 7 (by decide)) ?_
    refine q_callV hJ dX11_fires_49 (q := 52) rfl (M_image d hd (U r 7) img I R hFR ok.2.1.2.2.1 hi) imX11_image ln_X11_77 (by first | exact ka317 | exact ka318 | exact ka319 | exact ka320 | exact ka321 | exact ka322) (by decide) rfl rfl rfl rfl (Nat.le_of_ble_eq_true rfl) (by decide) (by decide) rfl rfl (fun rv gv Iv Rv hv => ?_)
    obtain ⟨rfl, rfl, rfl, rfl⟩ := hv
    refine q_istore hJ dX11_fires_52 (q := 54) rfl (by decide) ?_
    refine q_aload_n hJ dX11_fires_54 (q := 55) rfl rfl (by first | rfl | exact isR_rr _) ?_
    refine q_getR hJ dX11_fires_55 (q := 58) rfl fl_X11_7 rfl (by first | exact ka317 | exact ka318 | exact ka319 | exact ka320 | exact ka321 | exact ka322) (by assumption) rfl ?_
    refine q_iload hJ dX11_fires_58 (q := 60) rfl rfl ?_
    refine q_bipush hJ (v := 10) dX11_fires_60 (q := 62) rfl (by decide) ?_
    refine q_iadd hJ dX11_fires_62 (q := 63) rfl ?_
    refine q_iald hJ dX11_fires_63 (q := 64) rfl (by first | exact ka317 | exact ka318 | exact ka319 | exact ka320 | exact ka321 | exact ka322) (ixE (j := p + 82 + 12 * r + 10) (by ((try simp only [nIl_add, nI_mul, nIl_0, nIl_1, nIl_2, nIl_3, nIl_4, nIl_5, nIl_6, nIl_7, nIl_8, nIl_9, nIl_10, nIl_11, nIl_12, nIl_20, nIl_60, nIl_72, nIl_80, nIl_81, nIl_82, nIl_99, nIl_100, nIl_226, nIl_227, nIl_228, nIl_229, nIl_230, nIl_231, nIl_232, nIl_233, nIl_413, nIl_1239, nIl_10000]) <;> first | done | rfl | exact congrArg nI (by omega))) (by omega) (by decide)) (hU.2.2 r hr 10 (by decide)) ?_
    refine q_iconst hJ (v := 1) dX11_fires_64 (q := 65) rfl (by decide) ?_
    refine q_icmp_ne hJ (tgt := 105) dX11_fires_65 (q := 68) rfl (by decide) (fun c3 => ?_) (fun c3 => ?_)
    · refine q_iconst hJ (v := 0) dX11_fires_105 (q := 106) rfl (by decide) ?_
      refine q_iret hM dX11_fires_106 rfl (by (first | decide | assumption)) ?_
      first
        | exact ⟨iv0 (fun z => c3 z.1), rfl, rfl, rfl⟩
        | exact absurd c4 (by decide)
        | exact absurd rfl c4
        | exact ⟨iv0 (fun z => z.2.1 ⟨c1, Decidable.byContradiction fun y => c2 (if_neg y)⟩), rfl, rfl, rfl⟩
        | exact ⟨iv0 (fun z => absurd (c6.symm.trans z.2.2) (by decide)), rfl, rfl, rfl⟩
        | exact ⟨iv1 ⟨c3, fun z => c1 z.1, (cmpF_01 _ _ _).resolve_left c6⟩, rfl, rfl, rfl⟩
        | exact ⟨iv1 ⟨c3, fun z => absurd ((if_pos z.2).symm.trans c2) (by decide), (cmpF_01 _ _ _).resolve_left c6⟩, rfl, rfl, rfl⟩
    · refine q_iload hJ dX11_fires_68 (q := 70) rfl rfl ?_
      refine q_if_ne hJ (tgt := 105) dX11_fires_70 (q := 73) rfl (by decide) (fun c4 => ?_) (fun c4 => ?_)
      · refine q_iconst hJ (v := 0) dX11_fires_105 (q := 106) rfl (by decide) ?_
        refine q_iret hM dX11_fires_106 rfl (by (first | decide | assumption)) ?_
        first
          | exact ⟨iv0 (fun z => c3 z.1), rfl, rfl, rfl⟩
          | exact absurd c4 (by decide)
          | exact absurd rfl c4
          | exact ⟨iv0 (fun z => z.2.1 ⟨c1, Decidable.byContradiction fun y => c2 (if_neg y)⟩), rfl, rfl, rfl⟩
          | exact ⟨iv0 (fun z => absurd (c6.symm.trans z.2.2) (by decide)), rfl, rfl, rfl⟩
          | exact ⟨iv1 ⟨c3, fun z => c1 z.1, (cmpF_01 _ _ _).resolve_left c6⟩, rfl, rfl, rfl⟩
          | exact ⟨iv1 ⟨c3, fun z => absurd ((if_pos z.2).symm.trans c2) (by decide), (cmpF_01 _ _ _).resolve_left c6⟩, rfl, rfl, rfl⟩
      · refine q_iload hJ dX11_fires_73 (q := 75) rfl rfl ?_
        refine q_aload_n hJ dX11_fires_75 (q := 76) rfl rfl (by first | rfl | exact isR_rr _) ?_
        refine q_getR hJ dX11_fires_76 (q := 79) rfl fl_X11_7 rfl (by first | exact ka317 | exact ka318 | exact ka319 | exact ka320 | exact ka321 | exact ka322) (by assumption) rfl ?_
        refine q_iload hJ dX11_fires_79 (q := 81) rfl rfl ?_
        refine q_bipush hJ (v := 8) dX11_fires_81 (q := 83) rfl (by decide) ?_
        refine q_iadd hJ dX11_fires_83 (q := 84) rfl ?_
        refine q_iald hJ dX11_fires_84 (q := 85) rfl (by first | exact ka317 | exact ka318 | exact ka319 | exact ka320 | exact ka321 | exact ka322) (ixE (j := p + 82 + 12 * r + 8) (by ((try simp only [nIl_add, nI_mul, nIl_0, nIl_1, nIl_2, nIl_3, nIl_4, nIl_5, nIl_6, nIl_7, nIl_8, nIl_9, nIl_10, nIl_11, nIl_12, nIl_20, nIl_60, nIl_72, nIl_80, nIl_81, nIl_82, nIl_99, nIl_100, nIl_226, nIl_227, nIl_228, nIl_229, nIl_230, nIl_231, nIl_232, nIl_233, nIl_413, nIl_1239, nIl_10000]) <;> first | done | rfl | exact congrArg nI (by omega))) (by omega) (by decide)) (hU.2.2 r hr 8 (by decide)) ?_
        refine q_aload_n hJ dX11_fires_85 (q := 86) rfl rfl (by first | rfl | exact isR_rr _) ?_
        refine q_getR hJ dX11_fires_86 (q := 89) rfl fl_X11_7 rfl (by first | exact ka317 | exact ka318 | exact ka319 | exact ka320 | exact ka321 | exact ka322) (by assumption) rfl ?_
        refine q_iload hJ dX11_fires_89 (q := 91) rfl rfl ?_
        refine q_bipush hJ (v := 9) dX11_fires_91 (q := 93) rfl (by decide) ?_
        refine q_iadd hJ dX11_fires_93 (q := 94) rfl ?_
        refine q_iald hJ dX11_fires_94 (q := 95) rfl (by first | exact ka317 | exact ka318 | exact ka319 | exact ka320 | exact ka321 | exact ka322) (ixE (j := p + 82 + 12 * r + 9) (by ((try simp only [nIl_add, nI_mul, nIl_0, nIl_1, nIl_2, nIl_3, nIl_4, nIl_5, nIl_6, nIl_7, nIl_8, nIl_9, nIl_10, nIl_11, nIl_12, nIl_20, nIl_60, nIl_72, nIl_80, nIl_81, nIl_82, nIl_99, nIl_100, nIl_226, nIl_227, nIl_228, nIl_229, nIl_230, nIl_231, nIl_232, nIl_233, nIl_413, nIl_1239, nIl_10000]) <;> first | done | rfl | exact congrArg nI (by omega))) (by omega) (by decide)) (hU.2.2 r hr 9 (by decide)) ?_
        refine q_callS hJ dX11_fires_95 (q := 98) rfl (M_compares (rowF img (U r 7)) (U r 8) (U r 9) I R) imX11_compares ln_X11_80 rfl rfl rfl (Nat.le_of_ble_eq_true rfl) (by decide) (by decide) rfl rfl (fun rv gv Iv Rv hv => ?_)
        obtain ⟨rfl, rfl, rfl, rfl⟩ := hv
        refine q_if_eq hJ (tgt := 105) dX11_fires_98 (q := 101) rfl (by decide) (fun c6 => ?_) (fun c6 => ?_)
        · refine q_iconst hJ (v := 0) dX11_fires_105 (q := 106) rfl (by decide) ?_
          refine q_iret hM dX11_fires_106 rfl (by (first | decide | assumption)) ?_
          first
            | exact ⟨iv0 (fun z => c3 z.1), rfl, rfl, rfl⟩
            | exact absurd c4 (by decide)
            | exact absurd rfl c4
            | exact ⟨iv0 (fun z => z.2.1 ⟨c1, Decidable.byContradiction fun y => c2 (if_neg y)⟩), rfl, rfl, rfl⟩
            | exact ⟨iv0 (fun z => absurd (c6.symm.trans z.2.2) (by decide)), rfl, rfl, rfl⟩
            | exact ⟨iv1 ⟨c3, fun z => c1 z.1, (cmpF_01 _ _ _).resolve_left c6⟩, rfl, rfl, rfl⟩
            | exact ⟨iv1 ⟨c3, fun z => absurd ((if_pos z.2).symm.trans c2) (by decide), (cmpF_01 _ _ _).resolve_left c6⟩, rfl, rfl, rfl⟩
        · refine q_iconst hJ (v := 1) dX11_fires_101 (q := 102) rfl (by decide) ?_
          refine q_goto hJ (tgt := 106) dX11_fires_102 (by decide) ?_
          refine q_iret hM dX11_fires_106 rfl (by (first | decide | assumption)) ?_
          first
            | exact ⟨iv0 (fun z => c3 z.1), rfl, rfl, rfl⟩
            | exact absurd c4 (by decide)
            | exact absurd rfl c4
            | exact ⟨iv0 (fun z => z.2.1 ⟨c1, Decidable.byContradiction fun y => c2 (if_neg y)⟩), rfl, rfl, rfl⟩
            | exact ⟨iv0 (fun z => absurd (c6.symm.trans z.2.2) (by decide)), rfl, rfl, rfl⟩
            | exact ⟨iv1 ⟨c3, fun z => c1 z.1, (cmpF_01 _ _ _).resolve_left c6⟩, rfl, rfl, rfl⟩
            | exact ⟨iv1 ⟨c3, fun z => absurd ((if_pos z.2).symm.trans c2) (by decide), (cmpF_01 _ _ _).resolve_left c6⟩, rfl, rfl, rfl⟩
  · refine q_aload_n hJ dX11_fires_21 (q := 22) rfl rfl (by first | rfl | exact isR_rr _) ?_
    refine q_iload_n hJ dX11_fires_22 (q := 23) rfl rfl ?_
    refine q_iload_n hJ dX11_fires_23 (q := 24) rfl rfl ?_
    refine q_callV hJ dX11_fires_24 (q := 27) rfl (M_isFiring d r h1 hd cs I R hFR hcs) imX11_isFiring ln_X11_73 (by first | exact ka317 | exact ka318 | exact ka319 | exact ka320 | exact ka321 | exact ka322) (by decide) rfl rfl rfl rfl (Nat.le_of_ble_eq_true rfl) (by decide) (by decide) rfl rfl (fun rv gv Iv Rv hv => ?_)
    obtain ⟨rfl, rfl, rfl, rfl⟩ := hv
    refine q_if_eq hJ (tgt := 34) dX11_fires_27 (q := 30) rfl (by decide) (fun c2 => ?_) (fun c2 => ?_)
    · refine q_iconst hJ (v := 0) dX11_fires_34 (q := 35) rfl (by decide) ?_
      refine q_istore hJ dX11_fires_35 (q := 37) rfl (by decide) ?_
      refine q_aload_n hJ dX11_fires_37 (q := 38) rfl rfl (by first | rfl | exact isR_rr _) ?_
      refine q_iload_n hJ dX11_fires_38 (q := 39) rfl rfl ?_
      refine q_aload_n hJ dX11_fires_39 (q := 40) rfl rfl (by first | rfl | exact isR_rr _) ?_
      refine q_getR hJ dX11_fires_40 (q := 43) rfl fl_X11_7 rfl (by first | exact ka317 | exact ka318 | exact ka319 | exact ka320 | exact ka321 | exact ka322) (by assumption) rfl ?_
      refine q_iload hJ dX11_fires_43 (q := 45) rfl rfl ?_
      refine q_bipush hJ (v := 7) dX11_fires_45 (q := 47) rfl (by decide) ?_
      refine q_iadd hJ dX11_fires_47 (q := 48) rfl ?_
      refine q_iald hJ dX11_fires_48 (q := 49) rfl (by first | exact ka317 | exact ka318 | exact ka319 | exact ka320 | exact ka321 | exact ka322) (ixE (j := p + 82 + 12 * r + 7) (by ((try simp only [nIl_add, nI_mul, nIl_0, nIl_1, nIl_2, nIl_3, nIl_4, nIl_5, nIl_6, nIl_7, nIl_8, nIl_9, nIl_10, nIl_11, nIl_12, nIl_20, nIl_60, nIl_72, nIl_80, nIl_81, nIl_82, nIl_99, nIl_100, nIl_226, nIl_227, nIl_228, nIl_229, nIl_230, nIl_231, nIl_232, nIl_233, nIl_413, nIl_1239, nIl_10000]) <;> first | done | rfl | exact congrArg nI (by omega))) (by omega) (by decide)) (hU.2.2 r hr 7 (by decide)) ?_
      refine q_callV hJ dX11_fires_49 (q := 52) rfl (M_image d hd (U r 7) img I R hFR ok.2.1.2.2.1 hi) imX11_image ln_X11_77 (by first | exact ka317 | exact ka318 | exact ka319 | exact ka320 | exact ka321 | exact ka322) (by decide) rfl rfl rfl rfl (Nat.le_of_ble_eq_true rfl) (by decide) (by decide) rfl rfl (fun rv gv Iv Rv hv => ?_)
      obtain ⟨rfl, rfl, rfl, rfl⟩ := hv
      refine q_istore hJ dX11_fires_52 (q := 54) rfl (by decide) ?_
      refine q_aload_n hJ dX11_fires_54 (q := 55) rfl rfl (by first | rfl | exact isR_rr _) ?_
      refine q_getR hJ dX11_fires_55 (q := 58) rfl fl_X11_7 rfl (by first | exact ka317 | exact ka318 | exact ka319 | exact ka320 | exact ka321 | exact ka322) (by assumption) rfl ?_
      refine q_iload hJ dX11_fires_58 (q := 60) rfl rfl ?_
      refine q_bipush hJ (v := 10) dX11_fires_60 (q := 62) rfl (by decide) ?_
      refine q_iadd hJ dX11_fires_62 (q := 63) rfl ?_
      refine q_iald hJ dX11_fires_63 (q := 64) rfl (by first | exact ka317 | exact ka318 | exact ka319 | exact ka320 | exact ka321 | exact ka322) (ixE (j := p + 82 + 12 * r + 10) (by ((try simp only [nIl_add, nI_mul, nIl_0, nIl_1, nIl_2, nIl_3, nIl_4, nIl_5, nIl_6, nIl_7, nIl_8, nIl_9, nIl_10, nIl_11, nIl_12, nIl_20, nIl_60, nIl_72, nIl_80, nIl_81, nIl_82, nIl_99, nIl_100, nIl_226, nIl_227, nIl_228, nIl_229, nIl_230, nIl_231, nIl_232, nIl_233, nIl_413, nIl_1239, nIl_10000]) <;> first | done | rfl | exact congrArg nI (by omega))) (by omega) (by decide)) (hU.2.2 r hr 10 (by decide)) ?_
      refine q_iconst hJ (v := 1) dX11_fires_64 (q := 65) rfl (by decide) ?_
      refine q_icmp_ne hJ (tgt := 105) dX11_fires_65 (q := 68) rfl (by decide) (fun c3 => ?_) (fun c3 => ?_)
      · refine q_iconst hJ (v := 0) dX11_fires_105 (q := 106) rfl (by decide) ?_
        refine q_iret hM dX11_fires_106 rfl (by (first | decide | assumption)) ?_
        first
          | exact ⟨iv0 (fun z => c3 z.1), rfl, rfl, rfl⟩
          | exact absurd c4 (by decide)
          | exact absurd rfl c4
          | exact ⟨iv0 (fun z => z.2.1 ⟨c1, Decidable.byContradiction fun y => c2 (if_neg y)⟩), rfl, rfl, rfl⟩
          | exact ⟨iv0 (fun z => absurd (c6.symm.trans z.2.2) (by decide)), rfl, rfl, rfl⟩
          | exact ⟨iv1 ⟨c3, fun z => c1 z.1, (cmpF_01 _ _ _).resolve_left c6⟩, rfl, rfl, rfl⟩
          | exact ⟨iv1 ⟨c3, fun z => absurd ((if_pos z.2).symm.trans c2) (by decide), (cmpF_01 _ _ _).resolve_left c6⟩, rfl, rfl, rfl⟩
      · refine q_iload hJ dX11_fires_68 (q := 70) rfl rfl ?_
        refine q_if_ne hJ (tgt := 105) dX11_fires_70 (q := 73) rfl (by decide) (fun c4 => ?_) (fun c4 => ?_)
        · refine q_iconst hJ (v := 0) dX11_fires_105 (q := 106) rfl (by decide) ?_
          refine q_iret hM dX11_fires_106 rfl (by (first | decide | assumption)) ?_
          first
            | exact ⟨iv0 (fun z => c3 z.1), rfl, rfl, rfl⟩
            | exact absurd c4 (by decide)
            | exact absurd rfl c4
            | exact ⟨iv0 (fun z => z.2.1 ⟨c1, Decidable.byContradiction fun y => c2 (if_neg y)⟩), rfl, rfl, rfl⟩
            | exact ⟨iv0 (fun z => absurd (c6.symm.trans z.2.2) (by decide)), rfl, rfl, rfl⟩
            | exact ⟨iv1 ⟨c3, fun z => c1 z.1, (cmpF_01 _ _ _).resolve_left c6⟩, rfl, rfl, rfl⟩
            | exact ⟨iv1 ⟨c3, fun z => absurd ((if_pos z.2).symm.trans c2) (by decide), (cmpF_01 _ _ _).resolve_left c6⟩, rfl, rfl, rfl⟩
        · refine q_iload hJ dX11_fires_73 (q := 75) rfl rfl ?_
          refine q_aload_n hJ dX11_fires_75 (q := 76) rfl rfl (by first | rfl | exact isR_rr _) ?_
          refine q_getR hJ dX11_fires_76 (q := 79) rfl fl_X11_7 rfl (by first | exact ka317 | exact ka318 | exact ka319 | exact ka320 | exact ka321 | exact ka322) (by assumption) rfl ?_
          refine q_iload hJ dX11_fires_79 (q := 81) rfl rfl ?_
          refine q_bipush hJ (v := 8) dX11_fires_81 (q := 83) rfl (by decide) ?_
          refine q_iadd hJ dX11_fires_83 (q := 84) rfl ?_
          refine q_iald hJ dX11_fires_84 (q := 85) rfl (by first | exact ka317 | exact ka318 | exact ka319 | exact ka320 | exact ka321 | exact ka322) (ixE (j := p + 82 + 12 * r + 8) (by ((try simp only [nIl_add, nI_mul, nIl_0, nIl_1, nIl_2, nIl_3, nIl_4, nIl_5, nIl_6, nIl_7, nIl_8, nIl_9, nIl_10, nIl_11, nIl_12, nIl_20, nIl_60, nIl_72, nIl_80, nIl_81, nIl_82, nIl_99, nIl_100, nIl_226, nIl_227, nIl_228, nIl_229, nIl_230, nIl_231, nIl_232, nIl_233, nIl_413, nIl_1239, nIl_10000]) <;> first | done | rfl | exact congrArg nI (by omega))) (by omega) (by decide)) (hU.2.2 r hr 8 (by decide)) ?_
          refine q_aload_n hJ dX11_fires_85 (q := 86) rfl rfl (by first | rfl | exact isR_rr _) ?_
          refine q_getR hJ dX11_fires_86 (q := 89) rfl fl_X11_7 rfl (by first | exact ka317 | exact ka318 | exact ka319 | exact ka320 | exact ka321 | exact ka322) (by assumption) rfl ?_
          refine q_iload hJ dX11_fires_89 (q := 91) rfl rfl ?_
          refine q_bipush hJ (v := 9) dX11_fires_91 (q := 93) rfl (by decide) ?_
          refine q_iadd hJ dX11_fires_93 (q := 94) rfl ?_
          refine q_iald hJ dX11_fires_94 (q := 95) rfl (by first | exact ka317 | exact ka318 | exact ka319 | exact ka320 | exact ka321 | exact ka322) (ixE (j := p + 82 + 12 * r + 9) (by ((try simp only [nIl_add, nI_mul, nIl_0, nIl_1, nIl_2, nIl_3, nIl_4, nIl_5, nIl_6, nIl_7, nIl_8, nIl_9, nIl_10, nIl_11, nIl_12, nIl_20, nIl_60, nIl_72, nIl_80, nIl_81, nIl_82, nIl_99, nIl_100, nIl_226, nIl_227, nIl_228, nIl_229, nIl_230, nIl_231, nIl_232, nIl_233, nIl_413, nIl_1239, nIl_10000]) <;> first | done | rfl | exact congrArg nI (by omega))) (by omega) (by decide)) (hU.2.2 r hr 9 (by decide)) ?_
          refine q_callS hJ dX11_fires_95 (q := 98) rfl (M_compares (rowF img (U r 7)) (U r 8) (U r 9) I R) imX11_compares ln_X11_80 rfl rfl rfl (Nat.le_of_ble_eq_true rfl) (by decide) (by decide) rfl rfl (fun rv gv Iv Rv hv => ?_)
          obtain ⟨rfl, rfl, rfl, rfl⟩ := hv
          refine q_if_eq hJ (tgt := 105) dX11_fires_98 (q := 101) rfl (by decide) (fun c6 => ?_) (fun c6 => ?_)
          · refine q_iconst hJ (v := 0) dX11_fires_105 (q := 106) rfl (by decide) ?_
            refine q_iret hM dX11_fires_106 rfl (by (first | decide | assumption)) ?_
            first
              | exact ⟨iv0 (fun z => c3 z.1), rfl, rfl, rfl⟩
              | exact absurd c4 (by decide)
              | exact absurd rfl c4
              | exact ⟨iv0 (fun z => z.2.1 ⟨c1, Decidable.byContradiction fun y => c2 (if_neg y)⟩), rfl, rfl, rfl⟩
              | exact ⟨iv0 (fun z => absurd (c6.symm.trans z.2.2) (by decide)), rfl, rfl, rfl⟩
              | exact ⟨iv1 ⟨c3, fun z => c1 z.1, (cmpF_01 _ _ _).resolve_left c6⟩, rfl, rfl, rfl⟩
              | exact ⟨iv1 ⟨c3, fun z => absurd ((if_pos z.2).symm.trans c2) (by decide), (cmpF_01 _ _ _).resolve_left c6⟩, rfl, rfl, rfl⟩
          · refine q_iconst hJ (v := 1) dX11_fires_101 (q := 102) rfl (by decide) ?_
            refine q_goto hJ (tgt := 106) dX11_fires_102 (by decide) ?_
            refine q_iret hM dX11_fires_106 rfl (by (first | decide | assumption)) ?_
            first
              | exact ⟨iv0 (fun z => c3 z.1), rfl, rfl, rfl⟩
              | exact absurd c4 (by decide)
              | exact absurd rfl c4
              | exact ⟨iv0 (fun z => z.2.1 ⟨c1, Decidable.byContradiction fun y => c2 (if_neg y)⟩), rfl, rfl, rfl⟩
              | exact ⟨iv0 (fun z => absurd (c6.symm.trans z.2.2) (by decide)), rfl, rfl, rfl⟩
              | exact ⟨iv1 ⟨c3, fun z => c1 z.1, (cmpF_01 _ _ _).resolve_left c6⟩, rfl, rfl, rfl⟩
              | exact ⟨iv1 ⟨c3, fun z => absurd ((if_pos z.2).symm.trans c2) (by decide), (cmpF_01 _ _ _).resolve_left c6⟩, rfl, rfl, rfl⟩
    · refine q_iconst hJ (v := 1) dX11_fires_30 (q := 31) rfl (by decide) ?_
      refine q_goto hJ (tgt := 35) dX11_fires_31 (by decide) ?_
      refine q_istore hJ dX11_fires_35 (q := 37) rfl (by decide) ?_
      refine q_aload_n hJ dX11_fires_37 (q := 38) rfl rfl (by first | rfl | exact isR_rr _) ?_
      refine q_iload_n hJ dX11_fires_38 (q := 39) rfl rfl ?_
      refine q_aload_n hJ dX11_fires_39 (q := 40) rfl rfl (by first | rfl | exact isR_rr _) ?_
      refine q_getR hJ dX11_fires_40 (q := 43) rfl fl_X11_7 rfl (by first | exact ka317 | exact ka318 | exact ka319 | exact ka320 | exact ka321 | exact ka322) (by assumption) rfl ?_
      refine q_iload hJ dX11_fires_43 (q := 45) rfl rfl ?_
      refine q_bipush hJ (v := 7) dX11_fires_45 (q := 47) rfl (by decide) ?_
      refine q_iadd hJ dX11_fires_47 (q := 48) rfl ?_
      refine q_iald hJ dX11_fires_48 (q := 49) rfl (by first | exact ka317 | exact ka318 | exact ka319 | exact ka320 | exact ka321 | exact ka322) (ixE (j := p + 82 + 12 * r + 7) (by ((try simp only [nIl_add, nI_mul, nIl_0, nIl_1, nIl_2, nIl_3, nIl_4, nIl_5, nIl_6, nIl_7, nIl_8, nIl_9, nIl_10, nIl_11, nIl_12, nIl_20, nIl_60, nIl_72, nIl_80, nIl_81, nIl_82, nIl_99, nIl_100, nIl_226, nIl_227, nIl_228, nIl_229, nIl_230, nIl_231, nIl_232, nIl_233, nIl_413, nIl_1239, nIl_10000]) <;> first | done | rfl | exact congrArg nI (by omega))) (by omega) (by decide)) (hU.2.2 r hr 7 (by decide)) ?_
      refine q_callV hJ dX11_fires_49 (q := 52) rfl (M_image d hd (U r 7) img I R hFR ok.2.1.2.2.1 hi) imX11_image ln_X11_77 (by first | exact ka317 | exact ka318 | exact ka319 | exact ka320 | exact ka321 | exact ka322) (by decide) rfl rfl rfl rfl (Nat.le_of_ble_eq_true rfl) (by decide) (by decide) rfl rfl (fun rv gv Iv Rv hv => ?_)
      obtain ⟨rfl, rfl, rfl, rfl⟩ := hv
      refine q_istore hJ dX11_fires_52 (q := 54) rfl (by decide) ?_
      refine q_aload_n hJ dX11_fires_54 (q := 55) rfl rfl (by first | rfl | exact isR_rr _) ?_
      refine q_getR hJ dX11_fires_55 (q := 58) rfl fl_X11_7 rfl (by first | exact ka317 | exact ka318 | exact ka319 | exact ka320 | exact ka321 | exact ka322) (by assumption) rfl ?_
      refine q_iload hJ dX11_fires_58 (q := 60) rfl rfl ?_
      refine q_bipush hJ (v := 10) dX11_fires_60 (q := 62) rfl (by decide) ?_
      refine q_iadd hJ dX11_fires_62 (q := 63) rfl ?_
      refine q_iald hJ dX11_fires_63 (q := 64) rfl (by first | exact ka317 | exact ka318 | exact ka319 | exact ka320 | exact ka321 | exact ka322) (ixE (j := p + 82 + 12 * r + 10) (by ((try simp only [nIl_add, nI_mul, nIl_0, nIl_1, nIl_2, nIl_3, nIl_4, nIl_5, nIl_6, nIl_7, nIl_8, nIl_9, nIl_10, nIl_11, nIl_12, nIl_20, nIl_60, nIl_72, nIl_80, nIl_81, nIl_82, nIl_99, nIl_100, nIl_226, nIl_227, nIl_228, nIl_229, nIl_230, nIl_231, nIl_232, nIl_233, nIl_413, nIl_1239, nIl_10000]) <;> first | done | rfl | exact congrArg nI (by omega))) (by omega) (by decide)) (hU.2.2 r hr 10 (by decide)) ?_
      refine q_iconst hJ (v := 1) dX11_fires_64 (q := 65) rfl (by decide) ?_
      refine q_icmp_ne hJ (tgt := 105) dX11_fires_65 (q := 68) rfl (by decide) (fun c3 => ?_) (fun c3 => ?_)
      · refine q_iconst hJ (v := 0) dX11_fires_105 (q := 106) rfl (by decide) ?_
        refine q_iret hM dX11_fires_106 rfl (by (first | decide | assumption)) ?_
        first
          | exact ⟨iv0 (fun z => c3 z.1), rfl, rfl, rfl⟩
          | exact absurd c4 (by decide)
          | exact absurd rfl c4
          | exact ⟨iv0 (fun z => z.2.1 ⟨c1, Decidable.byContradiction fun y => c2 (if_neg y)⟩), rfl, rfl, rfl⟩
          | exact ⟨iv0 (fun z => absurd (c6.symm.trans z.2.2) (by decide)), rfl, rfl, rfl⟩
          | exact ⟨iv1 ⟨c3, fun z => c1 z.1, (cmpF_01 _ _ _).resolve_left c6⟩, rfl, rfl, rfl⟩
          | exact ⟨iv1 ⟨c3, fun z => absurd ((if_pos z.2).symm.trans c2) (by decide), (cmpF_01 _ _ _).resolve_left c6⟩, rfl, rfl, rfl⟩
      · refine q_iload hJ dX11_fires_68 (q := 70) rfl rfl ?_
        refine q_if_ne hJ (tgt := 105) dX11_fires_70 (q := 73) rfl (by decide) (fun c4 => ?_) (fun c4 => ?_)
        · refine q_iconst hJ (v := 0) dX11_fires_105 (q := 106) rfl (by decide) ?_
          refine q_iret hM dX11_fires_106 rfl (by (first | decide | assumption)) ?_
          first
            | exact ⟨iv0 (fun z => c3 z.1), rfl, rfl, rfl⟩
            | exact absurd c4 (by decide)
            | exact absurd rfl c4
            | exact ⟨iv0 (fun z => z.2.1 ⟨c1, Decidable.byContradiction fun y => c2 (if_neg y)⟩), rfl, rfl, rfl⟩
            | exact ⟨iv0 (fun z => absurd (c6.symm.trans z.2.2) (by decide)), rfl, rfl, rfl⟩
            | exact ⟨iv1 ⟨c3, fun z => c1 z.1, (cmpF_01 _ _ _).resolve_left c6⟩, rfl, rfl, rfl⟩
            | exact ⟨iv1 ⟨c3, fun z => absurd ((if_pos z.2).symm.trans c2) (by decide), (cmpF_01 _ _ _).resolve_left c6⟩, rfl, rfl, rfl⟩
        · refine q_iload hJ dX11_fires_73 (q := 75) rfl rfl ?_
          refine q_aload_n hJ dX11_fires_75 (q := 76) rfl rfl (by first | rfl | exact isR_rr _) ?_
          refine q_getR hJ dX11_fires_76 (q := 79) rfl fl_X11_7 rfl (by first | exact ka317 | exact ka318 | exact ka319 | exact ka320 | exact ka321 | exact ka322) (by assumption) rfl ?_
          refine q_iload hJ dX11_fires_79 (q := 81) rfl rfl ?_
          refine q_bipush hJ (v := 8) dX11_fires_81 (q := 83) rfl (by decide) ?_
          refine q_iadd hJ dX11_fires_83 (q := 84) rfl ?_
          refine q_iald hJ dX11_fires_84 (q := 85) rfl (by first | exact ka317 | exact ka318 | exact ka319 | exact ka320 | exact ka321 | exact ka322) (ixE (j := p + 82 + 12 * r + 8) (by ((try simp only [nIl_add, nI_mul, nIl_0, nIl_1, nIl_2, nIl_3, nIl_4, nIl_5, nIl_6, nIl_7, nIl_8, nIl_9, nIl_10, nIl_11, nIl_12, nIl_20, nIl_60, nIl_72, nIl_80, nIl_81, nIl_82, nIl_99, nIl_100, nIl_226, nIl_227, nIl_228, nIl_229, nIl_230, nIl_231, nIl_232, nIl_233, nIl_413, nIl_1239, nIl_10000]) <;> first | done | rfl | exact congrArg nI (by omega))) (by omega) (by decide)) (hU.2.2 r hr 8 (by decide)) ?_
          refine q_aload_n hJ dX11_fires_85 (q := 86) rfl rfl (by first | rfl | exact isR_rr _) ?_
          refine q_getR hJ dX11_fires_86 (q := 89) rfl fl_X11_7 rfl (by first | exact ka317 | exact ka318 | exact ka319 | exact ka320 | exact ka321 | exact ka322) (by assumption) rfl ?_
          refine q_iload hJ dX11_fires_89 (q := 91) rfl rfl ?_
          refine q_bipush hJ (v := 9) dX11_fires_91 (q := 93) rfl (by decide) ?_
          refine q_iadd hJ dX11_fires_93 (q := 94) rfl ?_
          refine q_iald hJ dX11_fires_94 (q := 95) rfl (by first | exact ka317 | exact ka318 | exact ka319 | exact ka320 | exact ka321 | exact ka322) (ixE (j := p + 82 + 12 * r + 9) (by ((try simp only [nIl_add, nI_mul, nIl_0, nIl_1, nIl_2, nIl_3, nIl_4, nIl_5, nIl_6, nIl_7, nIl_8, nIl_9, nIl_10, nIl_11, nIl_12, nIl_20, nIl_60, nIl_72, nIl_80, nIl_81, nIl_82, nIl_99, nIl_100, nIl_226, nIl_227, nIl_228, nIl_229, nIl_230, nIl_231, nIl_232, nIl_233, nIl_413, nIl_1239, nIl_10000]) <;> first | done | rfl | exact congrArg nI (by omega))) (by omega) (by decide)) (hU.2.2 r hr 9 (by decide)) ?_
          refine q_callS hJ dX11_fires_95 (q := 98) rfl (M_compares (rowF img (U r 7)) (U r 8) (U r 9) I R) imX11_compares ln_X11_80 rfl rfl rfl (Nat.le_of_ble_eq_true rfl) (by decide) (by decide) rfl rfl (fun rv gv Iv Rv hv => ?_)
          obtain ⟨rfl, rfl, rfl, rfl⟩ := hv
          refine q_if_eq hJ (tgt := 105) dX11_fires_98 (q := 101) rfl (by decide) (fun c6 => ?_) (fun c6 => ?_)
          · refine q_iconst hJ (v := 0) dX11_fires_105 (q := 106) rfl (by decide) ?_
            refine q_iret hM dX11_fires_106 rfl (by (first | decide | assumption)) ?_
            first
              | exact ⟨iv0 (fun z => c3 z.1), rfl, rfl, rfl⟩
              | exact absurd c4 (by decide)
              | exact absurd rfl c4
              | exact ⟨iv0 (fun z => z.2.1 ⟨c1, Decidable.byContradiction fun y => c2 (if_neg y)⟩), rfl, rfl, rfl⟩
              | exact ⟨iv0 (fun z => absurd (c6.symm.trans z.2.2) (by decide)), rfl, rfl, rfl⟩
              | exact ⟨iv1 ⟨c3, fun z => c1 z.1, (cmpF_01 _ _ _).resolve_left c6⟩, rfl, rfl, rfl⟩
              | exact ⟨iv1 ⟨c3, fun z => absurd ((if_pos z.2).symm.trans c2) (by decide), (cmpF_01 _ _ _).resolve_left c6⟩, rfl, rfl, rfl⟩
          · refine q_iconst hJ (v := 1) dX11_fires_101 (q := 102) rfl (by decide) ?_
            refine q_goto hJ (tgt := 106) dX11_fires_102 (by decide) ?_
            refine q_iret hM dX11_fires_106 rfl (by (first | decide | assumption)) ?_
            first
              | exact ⟨iv0 (fun z => c3 z.1), rfl, rfl, rfl⟩
              | exact absurd c4 (by decide)
              | exact absurd rfl c4
              | exact ⟨iv0 (fun z => z.2.1 ⟨c1, Decidable.byContradiction fun y => c2 (if_neg y)⟩), rfl, rfl, rfl⟩
              | exact ⟨iv0 (fun z => absurd (c6.symm.trans z.2.2) (by decide)), rfl, rfl, rfl⟩
              | exact ⟨iv1 ⟨c3, fun z => c1 z.1, (cmpF_01 _ _ _).resolve_left c6⟩, rfl, rfl, rfl⟩
              | exact ⟨iv1 ⟨c3, fun z => absurd ((if_pos z.2).symm.trans c2) (by decide), (cmpF_01 _ _ _).resolve_left c6⟩, rfl, rfl, rfl⟩

set_option maxRecDepth 100000 in
set_option maxHeartbeats 400000 in
theorem M_valueOf (p d r m : Nat) (hp : p ≤ 413) (hd : d < 9) (U : Nat → Nat → Int32) (img : Nat → Int32) (I : MI) (R : MR) (hFR : FR R) (hU : RuW (I 318) p U m) (hr : r < m) (ok : okRu (U r)) (hi : ∀ t, t < 4 → I 322 (8 * d + 1 + t) = img t) : Sp 1 0 0 mX11_valueOf [.ref 317, .int (nI p), .int (nI r), .int (nI d)] g0 I R (Mv (valF (U r) img) I R) := by
  have hm0 := hFR.2.2.2.2.2.1
  have hm1 := hFR.2.2.2.2.2.2.1
  have hm3 := hFR.2.2.2.2.2.2.2.1
  have hm5 := hFR.2.2.2.2.2.2.2.2.1
  have hm7 := hFR.2.2.2.2.2.2.2.2.2
  have hm := hU.2.1
  refine Sp.on (by decide +kernel) rfl rfl (fun J hM => ?_)
  have hJ := hM.ok
  refine q_iload_n hJ dX11_valueOf_0 (q := 1) rfl rfl ?_
  refine q_iload_n hJ dX11_valueOf_1 (q := 2) rfl rfl ?_
  refine q_callS hJ dX11_valueOf_2 (q := 5) rfl (M_ruleAt p r I R) imX11_ruleAt ln_X11_40 rfl rfl rfl (Nat.le_of_ble_eq_true rfl) (by decide) (by decide) rfl rfl (fun rv gv Iv Rv hv => ?_)
  obtain ⟨rfl, rfl, rfl, rfl⟩ := hv
  refine q_istore hJ dX11_valueOf_5 (q := 7) rfl (by decide) ?_
  refine q_aload_n hJ dX11_valueOf_7 (q := 8) rfl rfl (by first | rfl | exact isR_rr _) ?_
  refine q_iload_n hJ dX11_valueOf_8 (q := 9) rfl rfl ?_
  refine q_aload_n hJ dX11_valueOf_9 (q := 10) rfl rfl (by first | rfl | exact isR_rr _) ?_
  refine q_getR hJ dX11_valueOf_10 (q := 13) rfl fl_X11_7 rfl (by first | exact ka317 | exact ka318 | exact ka319 | exact ka320 | exact ka321 | exact ka322) (by assumption) rfl ?_
  refine q_iload hJ dX11_valueOf_13 (q := 15) rfl rfl ?_
  refine q_iconst hJ (v := 5) dX11_valueOf_15 (q := 16) rfl (by decide) ?_
  refine q_iadd hJ dX11_valueOf_16 (q := 17) rfl ?_
  refine q_iald hJ dX11_valueOf_17 (q := 18) rfl (by first | exact ka317 | exact ka318 | exact ka319 | exact ka320 | exact ka321 | exact ka322) (ixE (j := p + 82 + 12 * r + 5) (by ((try simp only [nIl_add, nI_mul, nIl_0, nIl_1, nIl_2, nIl_3, nIl_4, nIl_5, nIl_6, nIl_7, nIl_8, nIl_9, nIl_10, nIl_11, nIl_12, nIl_20, nIl_60, nIl_72, nIl_80, nIl_81, nIl_82, nIl_99, nIl_100, nIl_226, nIl_227, nIl_228, nIl_229, nIl_230, nIl_231, nIl_232, nIl_233, nIl_413, nIl_1239, nIl_10000]) <;> first | done | rfl | exact congrArg nI (by omega))) (by omega) (by decide)) (hU.2.2 r hr 5 (by decide)) ?_
  refine q_callV hJ dX11_valueOf_18 (q := 21) rfl (M_image d hd (U r 5) img I R hFR ok.2.1.2.1 hi) imX11_image ln_X11_77 (by first | exact ka317 | exact ka318 | exact ka319 | exact ka320 | exact ka321 | exact ka322) (by decide) rfl rfl rfl rfl (Nat.le_of_ble_eq_true rfl) (by decide) (by decide) rfl rfl (fun rv gv Iv Rv hv => ?_)
  obtain ⟨rfl, rfl, rfl, rfl⟩ := hv
  refine q_aload_n hJ dX11_valueOf_21 (q := 22) rfl rfl (by first | rfl | exact isR_rr _) ?_
  refine q_getR hJ dX11_valueOf_22 (q := 25) rfl fl_X11_7 rfl (by first | exact ka317 | exact ka318 | exact ka319 | exact ka320 | exact ka321 | exact ka322) (by assumption) rfl ?_
  refine q_iload hJ dX11_valueOf_25 (q := 27) rfl rfl ?_
  refine q_bipush hJ (v := 6) dX11_valueOf_27 (q := 29) rfl (by decide) ?_
  refine q_iadd hJ dX11_valueOf_29 (q := 30) rfl ?_
  refine q_iald hJ dX11_valueOf_30 (q := 31) rfl (by first | exact ka317 | exact ka318 | exact ka319 | exact ka320 | exact ka321 | exact ka322) (ixE (j := p + 82 + 12 * r + 6) (by ((try simp only [nIl_add, nI_mul, nIl_0, nIl_1, nIl_2, nIl_3, nIl_4, nIl_5, nIl_6, nIl_7, nIl_8, nIl_9, nIl_10, nIl_11, nIl_12, nIl_20, nIl_60, nIl_72, nIl_80, nIl_81, nIl_82, nIl_99, nIl_100, nIl_226, nIl_227, nIl_228, nIl_229, nIl_230, nIl_231, nIl_232, nIl_233, nIl_413, nIl_1239, nIl_10000]) <;> first | done | rfl | exact congrArg nI (by omega))) (by omega) (by decide)) (hU.2.2 r hr 6 (by decide)) ?_
  refine q_iadd hJ dX11_valueOf_31 (q := 32) rfl ?_
  refine q_istore hJ dX11_valueOf_32 (q := 34) rfl (by decide) ?_
  refine q_iload hJ dX11_valueOf_34 (q := 36) rfl rfl ?_
  refine q_sipush hJ (v := (-999)) dX11_valueOf_36 (q := 39) rfl (by decide) ?_
  refine q_icmp_ge hJ (tgt := 48) dX11_valueOf_39 (q := 42) rfl (by decide) (fun c1 => ?_) (fun c1 => ?_)
  · refine q_iload hJ dX11_valueOf_48 (q := 50) rfl rfl ?_
    refine q_sipush hJ (v := 999) dX11_valueOf_50 (q := 53) rfl (by decide) ?_
    refine q_icmp_le hJ (tgt := 62) dX11_valueOf_53 (q := 56) rfl (by decide) (fun c2 => ?_) (fun c2 => ?_)
    · refine q_iload hJ dX11_valueOf_62 (q := 64) rfl rfl ?_
      refine q_iret hM dX11_valueOf_64 rfl rfl ?_
      first
        | exact ⟨congrArg (fun x => some (Value.int x)) (clamp_lo (Int32.not_le.mp c1)).symm, rfl, rfl, rfl⟩
        | exact ⟨congrArg (fun x => some (Value.int x)) (clamp_hi (Int32.not_le.mp c2)).symm, rfl, rfl, rfl⟩
        | exact ⟨congrArg (fun x => some (Value.int x)) (clamp_in (Int32.not_lt.mpr c1) (Int32.not_lt.mpr c2)).symm, rfl, rfl, rfl⟩
    · refine q_sipush hJ (v := 999) dX11_valueOf_56 (q := 59) rfl (by decide) ?_
      refine q_goto hJ (tgt := 64) dX11_valueOf_59 (by decide) ?_
      refine q_iret hM dX11_valueOf_64 rfl rfl ?_
      first
        | exact ⟨congrArg (fun x => some (Value.int x)) (clamp_lo (Int32.not_le.mp c1)).symm, rfl, rfl, rfl⟩
        | exact ⟨congrArg (fun x => some (Value.int x)) (clamp_hi (Int32.not_le.mp c2)).symm, rfl, rfl, rfl⟩
        | exact ⟨congrArg (fun x => some (Value.int x)) (clamp_in (Int32.not_lt.mpr c1) (Int32.not_lt.mpr c2)).symm, rfl, rfl, rfl⟩
  · refine q_sipush hJ (v := (-999)) dX11_valueOf_42 (q := 45) rfl (by decide) ?_
    refine q_goto hJ (tgt := 64) dX11_valueOf_45 (by decide) ?_
    refine q_iret hM dX11_valueOf_64 rfl rfl ?_
    first
      | exact ⟨congrArg (fun x => some (Value.int x)) (clamp_lo (Int32.not_le.mp c1)).symm, rfl, rfl, rfl⟩
      | exact ⟨congrArg (fun x => some (Value.int x)) (clamp_hi (Int32.not_le.mp c2)).symm, rfl, rfl, rfl⟩
      | exact ⟨congrArg (fun x => some (Value.int x)) (clamp_in (Int32.not_lt.mpr c1) (Int32.not_lt.mpr c2)).symm, rfl, rfl, rfl⟩

theorem okM.cnt {A : AS} {U : Nat → Nat → Int32} (h : okM A) (hU : ∀ r, r < aM A → ∀ f, f ≠ 11 → U r f = aU A r f) : okM (setU A U) := by
  refine ⟨h.1, fun r hr => ?_, h.2.2⟩
  have h1 := h.2.1 r hr
  unfold okRu at h1 ⊢
  show (inR (U r 0) 0 2 = 1 ∧ _) ∧ _
  have e := hU r hr
  simp only [show aU (setU A U) = U from rfl]
  rw [e 0 (by decide), e 1 (by decide), e 2 (by decide), e 3 (by decide), e 4 (by decide), e 5 (by decide), e 7 (by decide), e 8 (by decide), e 10 (by decide)]
  exact h1
theorem RuW.cnt {M : Nat → Int32} {p : Nat} {U : Nat → Nat → Int32} {m r : Nat} (h : RuW M p U m) (hr : r < m) (M' : Nat → Int32) (h1 : M' (p + 82 + 12 * r + 11) = U r 11 + 1) (h2 : ∀ i, p + 81 ≤ i → i < p + 226 → i ≠ p + 82 + 12 * r + 11 → M' i = M i) : RuW M' p (up2 U r 11 (U r 11 + 1)) m := by
  have hm := h.2.1
  refine ⟨by rw [h2 _ (by omega) (by omega) (by omega)]; exact h.1, h.2.1, fun q hq f hf => ?_⟩
  by_cases e : q = r ∧ f = 11
  · rw [up2_app, if_pos e, e.1, e.2]; exact h1
  · rw [up2_app, if_neg e, h2 _ (by omega) (by omega) (by omega)]; exact h.2.2 q hq f hf
theorem LogQ.put {M : Nat → Int32} {p : Nat} {C : Nat → Nat → Int32} {n : Nat} (h : LogQ M p C n) (hn : n < 60) (r d key : Int32) (M' : Nat → Int32) (h0 : M' (p + 233 + 3 * n) = r) (h1 : M' (p + 233 + 3 * n + 1) = d) (h2 : M' (p + 233 + 3 * n + 2) = key) (h3 : M' (p + 232) = nI (n + 1)) (h4 : ∀ i, p + 233 ≤ i → i < p + 233 + 3 * n → M' i = M i) : LogQ M' p (fun i w => if i = n then (if w = 0 then r else if w = 1 then d else key) else C i w) (n + 1) := by
  refine ⟨h3, by omega, fun i hi w hw => ?_⟩
  show _ = if i = n then (if w = 0 then r else if w = 1 then d else key) else C i w
  by_cases e : i = n
  · rw [if_pos e, e]
    rcases (show w = 0 ∨ w = 1 ∨ w = 2 by omega) with rfl | rfl | rfl
    · exact h0
    · exact h1
    · exact h2
  · rw [if_neg e, h4 _ (by omega) (by omega)]; exact h.2.2 i (by omega) w hw
def CnPo (p d r : Nat) (img : Nat → Int32) (X : XS) (I : MI) (R : MR) : Po := fun v g' I' R' => v = none ∧ g0 = g' ∧ R = R' ∧ EM I' p (cntA d r img X) ∧ Kp p I I' ∧ I' 322 = I 322
set_option maxRecDepth 100000 in
set_option maxHeartbeats 400000 in
theorem M_counts (p d r : Nat) (hp : p ≤ 413) (hd : d < 9) (img : Nat → Int32) (X : XS) (I : MI) (R : MR) (hFR : FR R) (hX : EM I p X) (hr : r < aM (xA X)) (hi : ∀ t, t < 4 → I 322 (8 * d + 1 + t) = img t) : Sp 1 0 0 mX11_counts [.ref 317, .int (nI p), .int (nI r), .int (nI d)] g0 I R (CnPo p d r img X I R) := by
  have hm0 := hFR.2.2.2.2.2.1
  have hm1 := hFR.2.2.2.2.2.2.1
  have hm3 := hFR.2.2.2.2.2.2.2.1
  have hm5 := hFR.2.2.2.2.2.2.2.2.1
  have hm7 := hFR.2.2.2.2.2.2.2.2.2
  obtain ⟨⟨hR, hU, hS, hL⟩, hok, hc⟩ := id hX
  have hm := hU.2.1
  have hn := hL.2.1
  obtain ⟨n, en⟩ : ∃ n, n = aR (xA X) := ⟨_, rfl⟩
  obtain ⟨key, hk0⟩ : ∃ key, img 0 = key := ⟨_, rfl⟩
  have hkey : I 322 (8 * d + 1) = key := by rw [← hk0]; exact hi 0 (by decide)
  rw [← en] at hL hn
  refine Sp.on (by decide +kernel) rfl rfl (fun J hM => ?_)
  have hJ := hM.ok
  by_cases hlt : n < 60
  · refine q_aload_n hJ dX11_counts_0 (q := 1) rfl rfl (by first | rfl | exact isR_rr _) ?_
    refine q_getR hJ dX11_counts_1 (q := 4) rfl fl_X11_7 rfl (by first | exact ka317 | exact ka318 | exact ka319 | exact ka320 | exact ka321 | exact ka322) (by assumption) rfl ?_
    refine q_iload_n hJ dX11_counts_4 (q := 5) rfl rfl ?_
    refine q_sipush hJ (v := 232) dX11_counts_5 (q := 8) rfl (by decide) ?_
    refine q_iadd hJ dX11_counts_8 (q := 9) rfl ?_
    refine q_iald hJ dX11_counts_9 (q := 10) rfl (by first | exact ka317 | exact ka318 | exact ka319 | exact ka320 | exact ka321 | exact ka322) (ixE (j := p + 232) (by ((try simp only [nIl_add, nI_mul, nIl_0, nIl_1, nIl_2, nIl_3, nIl_4, nIl_5, nIl_6, nIl_7, nIl_8, nIl_9, nIl_10, nIl_11, nIl_12, nIl_20, nIl_60, nIl_72, nIl_80, nIl_81, nIl_82, nIl_99, nIl_100, nIl_226, nIl_227, nIl_228, nIl_229, nIl_230, nIl_231, nIl_232, nIl_233, nIl_413, nIl_1239, nIl_10000]) <;> first | done | rfl | exact congrArg nI (by omega))) (by omega) (by decide)) hL.1 ?_
    refine q_istore hJ dX11_counts_10 (q := 12) rfl (by decide) ?_
    refine q_iload hJ dX11_counts_12 (q := 14) rfl rfl ?_
    refine q_bipush hJ (v := 60) dX11_counts_14 (q := 16) rfl (by decide) ?_
    refine q_icmp_ge hJ (tgt := 95) dX11_counts_16 (q := 19) rfl (by decide) (fun c1 => absurd ((nI_leI (a := 60) (b := n) (by omega) (by omega)).mp c1) (by omega)) (fun _ => ?_)
    refine q_aload_n hJ dX11_counts_19 (q := 20) rfl rfl (by first | rfl | exact isR_rr _) ?_
    refine q_getR hJ dX11_counts_20 (q := 23) rfl fl_X11_7 rfl (by first | exact ka317 | exact ka318 | exact ka319 | exact ka320 | exact ka321 | exact ka322) (by assumption) rfl ?_
    refine q_iload_n hJ dX11_counts_23 (q := 24) rfl rfl ?_
    refine q_sipush hJ (v := 233) dX11_counts_24 (q := 27) rfl (by decide) ?_
    refine q_iadd hJ dX11_counts_27 (q := 28) rfl ?_
    refine q_iconst hJ (v := 3) dX11_counts_28 (q := 29) rfl (by decide) ?_
    refine q_iload hJ dX11_counts_29 (q := 31) rfl rfl ?_
    refine q_imul hJ dX11_counts_31 (q := 32) rfl ?_
    refine q_iadd hJ dX11_counts_32 (q := 33) rfl ?_
    refine q_iload_n hJ dX11_counts_33 (q := 34) rfl rfl ?_
    refine q_iast hJ dX11_counts_34 (q := 35) rfl (by first | exact ka317 | exact ka318 | exact ka319 | exact ka320 | exact ka321 | exact ka322) (ixE (j := p + 233 + 3 * n) (by ((try simp only [nIl_add, nI_mul, nIl_0, nIl_1, nIl_2, nIl_3, nIl_4, nIl_5, nIl_6, nIl_7, nIl_8, nIl_9, nIl_10, nIl_11, nIl_12, nIl_20, nIl_60, nIl_72, nIl_80, nIl_81, nIl_82, nIl_99, nIl_100, nIl_226, nIl_227, nIl_228, nIl_229, nIl_230, nIl_231, nIl_232, nIl_233, nIl_413, nIl_1239, nIl_10000]) <;> first | done | rfl | exact congrArg nI (by omega))) (by omega) (by decide)) ?_
    refine q_aload_n hJ dX11_counts_35 (q := 36) rfl rfl (by first | rfl | exact isR_rr _) ?_
    refine q_getR hJ dX11_counts_36 (q := 39) rfl fl_X11_7 rfl (by first | exact ka317 | exact ka318 | exact ka319 | exact ka320 | exact ka321 | exact ka322) (by assumption) rfl ?_
    refine q_iload_n hJ dX11_counts_39 (q := 40) rfl rfl ?_
    refine q_sipush hJ (v := 233) dX11_counts_40 (q := 43) rfl (by decide) ?_
    refine q_iadd hJ dX11_counts_43 (q := 44) rfl ?_
    refine q_iconst hJ (v := 3) dX11_counts_44 (q := 45) rfl (by decide) ?_
    refine q_iload hJ dX11_counts_45 (q := 47) rfl rfl ?_
    refine q_imul hJ dX11_counts_47 (q := 48) rfl ?_
    refine q_iadd hJ dX11_counts_48 (q := 49) rfl ?_
    refine q_iconst hJ (v := 1) dX11_counts_49 (q := 50) rfl (by decide) ?_
    refine q_iadd hJ dX11_counts_50 (q := 51) rfl ?_
    refine q_iload_n hJ dX11_counts_51 (q := 52) rfl rfl ?_
    refine q_iast hJ dX11_counts_52 (q := 53) rfl (by first | exact ka317 | exact ka318 | exact ka319 | exact ka320 | exact ka321 | exact ka322) (ixE (j := p + 233 + 3 * n + 1) (by ((try simp only [nIl_add, nI_mul, nIl_0, nIl_1, nIl_2, nIl_3, nIl_4, nIl_5, nIl_6, nIl_7, nIl_8, nIl_9, nIl_10, nIl_11, nIl_12, nIl_20, nIl_60, nIl_72, nIl_80, nIl_81, nIl_82, nIl_99, nIl_100, nIl_226, nIl_227, nIl_228, nIl_229, nIl_230, nIl_231, nIl_232, nIl_233, nIl_413, nIl_1239, nIl_10000]) <;> first | done | rfl | exact congrArg nI (by omega))) (by omega) (by decide)) ?_
    refine q_aload_n hJ dX11_counts_53 (q := 54) rfl rfl (by first | rfl | exact isR_rr _) ?_
    refine q_getR hJ dX11_counts_54 (q := 57) rfl fl_X11_7 rfl (by first | exact ka317 | exact ka318 | exact ka319 | exact ka320 | exact ka321 | exact ka322) (by assumption) rfl ?_
    refine q_iload_n hJ dX11_counts_57 (q := 58) rfl rfl ?_
    refine q_sipush hJ (v := 233) dX11_counts_58 (q := 61) rfl (by decide) ?_
    refine q_iadd hJ dX11_counts_61 (q := 62) rfl ?_
    refine q_iconst hJ (v := 3) dX11_counts_62 (q := 63) rfl (by decide) ?_
    refine q_iload hJ dX11_counts_63 (q := 65) rfl rfl ?_
    refine q_imul hJ dX11_counts_65 (q := 66) rfl ?_
    refine q_iadd hJ dX11_counts_66 (q := 67) rfl ?_
    refine q_iconst hJ (v := 2) dX11_counts_67 (q := 68) rfl (by decide) ?_
    refine q_iadd hJ dX11_counts_68 (q := 69) rfl ?_
    refine q_aload_n hJ dX11_counts_69 (q := 70) rfl rfl (by first | rfl | exact isR_rr _) ?_
    refine q_getR hJ dX11_counts_70 (q := 73) rfl fl_X11_22 rfl (by first | exact ka317 | exact ka318 | exact ka319 | exact ka320 | exact ka321 | exact ka322) (by assumption) rfl ?_
    refine q_bipush hJ (v := 8) dX11_counts_73 (q := 75) rfl (by decide) ?_
    refine q_iload_n hJ dX11_counts_75 (q := 76) rfl rfl ?_
    refine q_imul hJ dX11_counts_76 (q := 77) rfl ?_
    refine q_iconst hJ (v := 1) dX11_counts_77 (q := 78) rfl (by decide) ?_
    refine q_iadd hJ dX11_counts_78 (q := 79) rfl ?_
    refine q_iald hJ dX11_counts_79 (q := 80) rfl (by first | exact ka317 | exact ka318 | exact ka319 | exact ka320 | exact ka321 | exact ka322) (ixE (j := 8 * d + 1) (by ((try simp only [nIl_add, nI_mul, nIl_0, nIl_1, nIl_2, nIl_3, nIl_4, nIl_5, nIl_6, nIl_7, nIl_8, nIl_9, nIl_10, nIl_11, nIl_12, nIl_20, nIl_60, nIl_72, nIl_80, nIl_81, nIl_82, nIl_99, nIl_100, nIl_226, nIl_227, nIl_228, nIl_229, nIl_230, nIl_231, nIl_232, nIl_233, nIl_413, nIl_1239, nIl_10000]) <;> first | done | rfl | exact congrArg nI (by omega))) (by omega) (by decide)) (show _ = key by rw [up2_i (by omega), up2_i (by omega)]; exact hkey) ?_
    refine q_iast hJ dX11_counts_80 (q := 81) rfl (by first | exact ka317 | exact ka318 | exact ka319 | exact ka320 | exact ka321 | exact ka322) (ixE (j := p + 233 + 3 * n + 2) (by ((try simp only [nIl_add, nI_mul, nIl_0, nIl_1, nIl_2, nIl_3, nIl_4, nIl_5, nIl_6, nIl_7, nIl_8, nIl_9, nIl_10, nIl_11, nIl_12, nIl_20, nIl_60, nIl_72, nIl_80, nIl_81, nIl_82, nIl_99, nIl_100, nIl_226, nIl_227, nIl_228, nIl_229, nIl_230, nIl_231, nIl_232, nIl_233, nIl_413, nIl_1239, nIl_10000]) <;> first | done | rfl | exact congrArg nI (by omega))) (by omega) (by decide)) ?_
    refine q_aload_n hJ dX11_counts_81 (q := 82) rfl rfl (by first | rfl | exact isR_rr _) ?_
    refine q_getR hJ dX11_counts_82 (q := 85) rfl fl_X11_7 rfl (by first | exact ka317 | exact ka318 | exact ka319 | exact ka320 | exact ka321 | exact ka322) (by assumption) rfl ?_
    refine q_iload_n hJ dX11_counts_85 (q := 86) rfl rfl ?_
    refine q_sipush hJ (v := 232) dX11_counts_86 (q := 89) rfl (by decide) ?_
    refine q_iadd hJ dX11_counts_89 (q := 90) rfl ?_
    refine q_dup2 hJ dX11_counts_90 (q := 91) rfl rfl rfl ?_
    refine q_iald hJ dX11_counts_91 (q := 92) rfl (by first | exact ka317 | exact ka318 | exact ka319 | exact ka320 | exact ka321 | exact ka322) (ixE (j := p + 232) (by ((try simp only [nIl_add, nI_mul, nIl_0, nIl_1, nIl_2, nIl_3, nIl_4, nIl_5, nIl_6, nIl_7, nIl_8, nIl_9, nIl_10, nIl_11, nIl_12, nIl_20, nIl_60, nIl_72, nIl_80, nIl_81, nIl_82, nIl_99, nIl_100, nIl_226, nIl_227, nIl_228, nIl_229, nIl_230, nIl_231, nIl_232, nIl_233, nIl_413, nIl_1239, nIl_10000]) <;> first | done | rfl | exact congrArg nI (by omega))) (by omega) (by decide)) (show _ = nI n by rw [up2_i (by omega), up2_i (by omega), up2_i (by omega)]; exact hL.1) ?_
    refine q_iconst hJ (v := 1) dX11_counts_92 (q := 93) rfl (by decide) ?_
    refine q_iadd hJ dX11_counts_93 (q := 94) rfl ?_
    refine q_iast hJ dX11_counts_94 (q := 95) rfl (by first | exact ka317 | exact ka318 | exact ka319 | exact ka320 | exact ka321 | exact ka322) (ixE (j := p + 232) (by ((try simp only [nIl_add, nI_mul, nIl_0, nIl_1, nIl_2, nIl_3, nIl_4, nIl_5, nIl_6, nIl_7, nIl_8, nIl_9, nIl_10, nIl_11, nIl_12, nIl_20, nIl_60, nIl_72, nIl_80, nIl_81, nIl_82, nIl_99, nIl_100, nIl_226, nIl_227, nIl_228, nIl_229, nIl_230, nIl_231, nIl_232, nIl_233, nIl_413, nIl_1239, nIl_10000]) <;> first | done | rfl | exact congrArg nI (by omega))) (by omega) (by decide)) ?_
    refine q_aload_n hJ dX11_counts_95 (q := 96) rfl rfl (by first | rfl | exact isR_rr _) ?_
    refine q_getR hJ dX11_counts_96 (q := 99) rfl fl_X11_7 rfl (by first | exact ka317 | exact ka318 | exact ka319 | exact ka320 | exact ka321 | exact ka322) (by assumption) rfl ?_
    refine q_iload_n hJ dX11_counts_99 (q := 100) rfl rfl ?_
    refine q_iload_n hJ dX11_counts_100 (q := 101) rfl rfl ?_
    refine q_callS hJ dX11_counts_101 (q := 104) rfl (M_ruleAt p r _ R) imX11_ruleAt ln_X11_40 rfl rfl rfl (Nat.le_of_ble_eq_true rfl) (by decide) (by decide) rfl rfl (fun rv gv Iv Rv hv => ?_)
    obtain ⟨rfl, rfl, rfl, rfl⟩ := hv
    refine q_bipush hJ (v := 11) dX11_counts_104 (q := 106) rfl (by decide) ?_
    refine q_iadd hJ dX11_counts_106 (q := 107) rfl ?_
    refine q_dup2 hJ dX11_counts_107 (q := 108) rfl rfl rfl ?_
    refine q_iald hJ dX11_counts_108 (q := 109) rfl (by first | exact ka317 | exact ka318 | exact ka319 | exact ka320 | exact ka321 | exact ka322) (ixE (j := p + 82 + 12 * r + 11) (by ((try simp only [nIl_add, nI_mul, nIl_0, nIl_1, nIl_2, nIl_3, nIl_4, nIl_5, nIl_6, nIl_7, nIl_8, nIl_9, nIl_10, nIl_11, nIl_12, nIl_20, nIl_60, nIl_72, nIl_80, nIl_81, nIl_82, nIl_99, nIl_100, nIl_226, nIl_227, nIl_228, nIl_229, nIl_230, nIl_231, nIl_232, nIl_233, nIl_413, nIl_1239, nIl_10000]) <;> first | done | rfl | exact congrArg nI (by omega))) (by omega) (by decide)) (show _ = aU (xA X) r 11 by rw [up2_i (by omega), up2_i (by omega), up2_i (by omega), up2_i (by omega)]; exact hU.2.2 r hr 11 (by decide)) ?_
    refine q_iconst hJ (v := 1) dX11_counts_109 (q := 110) rfl (by decide) ?_
    refine q_iadd hJ dX11_counts_110 (q := 111) rfl ?_
    refine q_iast hJ dX11_counts_111 (q := 112) rfl (by first | exact ka317 | exact ka318 | exact ka319 | exact ka320 | exact ka321 | exact ka322) (ixE (j := p + 82 + 12 * r + 11) (by ((try simp only [nIl_add, nI_mul, nIl_0, nIl_1, nIl_2, nIl_3, nIl_4, nIl_5, nIl_6, nIl_7, nIl_8, nIl_9, nIl_10, nIl_11, nIl_12, nIl_20, nIl_60, nIl_72, nIl_80, nIl_81, nIl_82, nIl_99, nIl_100, nIl_226, nIl_227, nIl_228, nIl_229, nIl_230, nIl_231, nIl_232, nIl_233, nIl_413, nIl_1239, nIl_10000]) <;> first | done | rfl | exact congrArg nI (by omega))) (by omega) (by decide)) ?_
    refine q_aload_n hJ dX11_counts_112 (q := 113) rfl rfl (by first | rfl | exact isR_rr _) ?_
    refine q_dup hJ dX11_counts_113 (q := 114) rfl rfl ?_
    refine q_getI hJ dX11_counts_114 (q := 117) rfl fl_X11_83 rfl (by first | exact ka317 | exact ka318 | exact ka319 | exact ka320 | exact ka321 | exact ka322) (show _ = xF X by rw [up2_i (by omega), up2_i (by omega), up2_i (by omega), up2_i (by omega), up2_i (by omega)]; exact hc.2.1) ?_
    refine q_iconst hJ (v := 1) dX11_counts_117 (q := 118) rfl (by decide) ?_
    refine q_iadd hJ dX11_counts_118 (q := 119) rfl ?_
    refine q_putI hJ dX11_counts_119 (q := 122) rfl fl_X11_83 rfl rfl (by first | exact ka317 | exact ka318 | exact ka319 | exact ka320 | exact ka321 | exact ka322) rfl rfl ?_
    refine q_vret hM dX11_counts_122 rfl ?_
    have eA : recA (setU (xA X) (up2 (aU (xA X)) r 11 (aU (xA X) r 11 + 1))) (nI r) (nI d) key = setC (setU (xA X) (up2 (aU (xA X)) r 11 (aU (xA X) r 11 + 1))) (fun i w => if i = n then (if w = 0 then nI r else if w = 1 then nI d else key) else aC (xA X) i w) (n + 1) := by unfold recA; rw [show aR (setU (xA X) (up2 (aU (xA X)) r 11 (aU (xA X) r 11 + 1))) = n from en.symm]; exact if_pos hlt
    unfold CnPo EM cntA
    rw [hk0, eA]
    refine ⟨rfl, rfl, rfl, ⟨⟨hR.of (fun i h1 h2 => by rw [up2_i (by omega), up2_i (by omega), up2_i (by omega), up2_i (by omega), up2_i (by omega), up2_i (by omega)]), ?_, hS.of (fun i h1 h2 => by rw [up2_i (by omega), up2_i (by omega), up2_i (by omega), up2_i (by omega), up2_i (by omega), up2_i (by omega)]), ?_⟩, ?_, ?_, ?_, ?_, ?_, ?_⟩, ?_, ?_⟩
    · exact hU.cnt hr _ (by rw [up2_i (by omega), up2_self]) (fun i h1 h2 h3 => by rw [up2_i (by omega), up2_i (by omega), up2_i (by omega), up2_i (by omega), up2_i (by omega), up2_i (by omega)])
    · refine hL.put hlt (nI r) (nI d) key _ ?_ ?_ ?_ ?_ (fun i h1 h2 => by rw [up2_i (by omega), up2_i (by omega), up2_i (by omega), up2_i (by omega), up2_i (by omega), up2_i (by omega)])
      · rw [up2_i (by omega), up2_i (by omega), up2_i (by omega), up2_i (by omega), up2_i (by omega), up2_self]
      · rw [up2_i (by omega), up2_i (by omega), up2_i (by omega), up2_i (by omega), up2_self]
      · rw [up2_i (by omega), up2_i (by omega), up2_i (by omega), up2_self]
      · rw [up2_i (by omega), up2_i (by omega), up2_self]; exact nI_1 n
    · exact hok.cnt (fun q hq f hf => up2_slot _ _ _ _ hf)
    · rw [up2_i (by omega), up2_i (by omega), up2_i (by omega), up2_i (by omega), up2_i (by omega), up2_i (by omega)]; exact hc.1
    · rw [up2_self]
    · rw [up2_i (by omega), up2_i (by omega), up2_i (by omega), up2_i (by omega), up2_i (by omega), up2_i (by omega)]; exact hc.2.2.1
    · rw [up2_i (by omega), up2_i (by omega), up2_i (by omega), up2_i (by omega), up2_i (by omega), up2_i (by omega)]; exact hc.2.2.2.1
    · rw [up2_i (by omega), up2_i (by omega), up2_i (by omega), up2_i (by omega), up2_i (by omega), up2_i (by omega)]; exact hc.2.2.2.2
    · exact ((((((Kp.rf p I).u318 (by omega) _).u318 (by omega) _).u318 (by omega) _).u318 (by omega) _).u318 (by omega) _).u317 (by decide) _
    · funext i; rw [up2_i (by omega), up2_i (by omega), up2_i (by omega), up2_i (by omega), up2_i (by omega), up2_i (by omega)]
  · refine q_aload_n hJ dX11_counts_0 (q := 1) rfl rfl (by first | rfl | exact isR_rr _) ?_
    refine q_getR hJ dX11_counts_1 (q := 4) rfl fl_X11_7 rfl (by first | exact ka317 | exact ka318 | exact ka319 | exact ka320 | exact ka321 | exact ka322) (by assumption) rfl ?_
    refine q_iload_n hJ dX11_counts_4 (q := 5) rfl rfl ?_
    refine q_sipush hJ (v := 232) dX11_counts_5 (q := 8) rfl (by decide) ?_
    refine q_iadd hJ dX11_counts_8 (q := 9) rfl ?_
    refine q_iald hJ dX11_counts_9 (q := 10) rfl (by first | exact ka317 | exact ka318 | exact ka319 | exact ka320 | exact ka321 | exact ka322) (ixE (j := p + 232) (by ((try simp only [nIl_add, nI_mul, nIl_0, nIl_1, nIl_2, nIl_3, nIl_4, nIl_5, nIl_6, nIl_7, nIl_8, nIl_9, nIl_10, nIl_11, nIl_12, nIl_20, nIl_60, nIl_72, nIl_80, nIl_81, nIl_82, nIl_99, nIl_100, nIl_226, nIl_227, nIl_228, nIl_229, nIl_230, nIl_231, nIl_232, nIl_233, nIl_413, nIl_1239, nIl_10000]) <;> first | done | rfl | exact congrArg nI (by omega))) (by omega) (by decide)) hL.1 ?_
    refine q_istore hJ dX11_counts_10 (q := 12) rfl (by decide) ?_
    refine q_iload hJ dX11_counts_12 (q := 14) rfl rfl ?_
    refine q_bipush hJ (v := 60) dX11_counts_14 (q := 16) rfl (by decide) ?_
    refine q_icmp_ge hJ (tgt := 95) dX11_counts_16 (q := 19) rfl (by decide) (fun _ => ?_) (fun c1 => absurd ((nI_leI (a := 60) (b := n) (by omega) (by omega)).mpr (by omega)) c1)
    refine q_aload_n hJ dX11_counts_95 (q := 96) rfl rfl (by first | rfl | exact isR_rr _) ?_
    refine q_getR hJ dX11_counts_96 (q := 99) rfl fl_X11_7 rfl (by first | exact ka317 | exact ka318 | exact ka319 | exact ka320 | exact ka321 | exact ka322) (by assumption) rfl ?_
    refine q_iload_n hJ dX11_counts_99 (q := 100) rfl rfl ?_
    refine q_iload_n hJ dX11_counts_100 (q := 101) rfl rfl ?_
    refine q_callS hJ dX11_counts_101 (q := 104) rfl (M_ruleAt p r _ R) imX11_ruleAt ln_X11_40 rfl rfl rfl (Nat.le_of_ble_eq_true rfl) (by decide) (by decide) rfl rfl (fun rv gv Iv Rv hv => ?_)
    obtain ⟨rfl, rfl, rfl, rfl⟩ := hv
    refine q_bipush hJ (v := 11) dX11_counts_104 (q := 106) rfl (by decide) ?_
    refine q_iadd hJ dX11_counts_106 (q := 107) rfl ?_
    refine q_dup2 hJ dX11_counts_107 (q := 108) rfl rfl rfl ?_
    refine q_iald hJ dX11_counts_108 (q := 109) rfl (by first | exact ka317 | exact ka318 | exact ka319 | exact ka320 | exact ka321 | exact ka322) (ixE (j := p + 82 + 12 * r + 11) (by ((try simp only [nIl_add, nI_mul, nIl_0, nIl_1, nIl_2, nIl_3, nIl_4, nIl_5, nIl_6, nIl_7, nIl_8, nIl_9, nIl_10, nIl_11, nIl_12, nIl_20, nIl_60, nIl_72, nIl_80, nIl_81, nIl_82, nIl_99, nIl_100, nIl_226, nIl_227, nIl_228, nIl_229, nIl_230, nIl_231, nIl_232, nIl_233, nIl_413, nIl_1239, nIl_10000]) <;> first | done | rfl | exact congrArg nI (by omega))) (by omega) (by decide)) (show _ = aU (xA X) r 11 by exact hU.2.2 r hr 11 (by decide)) ?_
    refine q_iconst hJ (v := 1) dX11_counts_109 (q := 110) rfl (by decide) ?_
    refine q_iadd hJ dX11_counts_110 (q := 111) rfl ?_
    refine q_iast hJ dX11_counts_111 (q := 112) rfl (by first | exact ka317 | exact ka318 | exact ka319 | exact ka320 | exact ka321 | exact ka322) (ixE (j := p + 82 + 12 * r + 11) (by ((try simp only [nIl_add, nI_mul, nIl_0, nIl_1, nIl_2, nIl_3, nIl_4, nIl_5, nIl_6, nIl_7, nIl_8, nIl_9, nIl_10, nIl_11, nIl_12, nIl_20, nIl_60, nIl_72, nIl_80, nIl_81, nIl_82, nIl_99, nIl_100, nIl_226, nIl_227, nIl_228, nIl_229, nIl_230, nIl_231, nIl_232, nIl_233, nIl_413, nIl_1239, nIl_10000]) <;> first | done | rfl | exact congrArg nI (by omega))) (by omega) (by decide)) ?_
    refine q_aload_n hJ dX11_counts_112 (q := 113) rfl rfl (by first | rfl | exact isR_rr _) ?_
    refine q_dup hJ dX11_counts_113 (q := 114) rfl rfl ?_
    refine q_getI hJ dX11_counts_114 (q := 117) rfl fl_X11_83 rfl (by first | exact ka317 | exact ka318 | exact ka319 | exact ka320 | exact ka321 | exact ka322) (show _ = xF X by rw [up2_i (by omega)]; exact hc.2.1) ?_
    refine q_iconst hJ (v := 1) dX11_counts_117 (q := 118) rfl (by decide) ?_
    refine q_iadd hJ dX11_counts_118 (q := 119) rfl ?_
    refine q_putI hJ dX11_counts_119 (q := 122) rfl fl_X11_83 rfl rfl (by first | exact ka317 | exact ka318 | exact ka319 | exact ka320 | exact ka321 | exact ka322) rfl rfl ?_
    refine q_vret hM dX11_counts_122 rfl ?_
    have eA : recA (setU (xA X) (up2 (aU (xA X)) r 11 (aU (xA X) r 11 + 1))) (nI r) (nI d) key = setU (xA X) (up2 (aU (xA X)) r 11 (aU (xA X) r 11 + 1)) := by unfold recA; rw [show aR (setU (xA X) (up2 (aU (xA X)) r 11 (aU (xA X) r 11 + 1))) = n from en.symm]; exact if_neg hlt
    unfold CnPo EM cntA
    rw [hk0, eA]
    refine ⟨rfl, rfl, rfl, ⟨⟨hR.of (fun i h1 h2 => by rw [up2_i (by omega), up2_i (by omega)]), ?_, hS.of (fun i h1 h2 => by rw [up2_i (by omega), up2_i (by omega)]), ?_⟩, ?_, ?_, ?_, ?_, ?_, ?_⟩, ?_, ?_⟩
    · exact hU.cnt hr _ (by rw [up2_i (by omega), up2_self]) (fun i h1 h2 h3 => by rw [up2_i (by omega), up2_i (by omega)])
    · show LogQ _ p (aC (xA X)) (aR (xA X))
      rw [← en]
      exact hL.of (fun i h1 h2 => by rw [up2_i (by omega), up2_i (by omega)])
    · exact hok.cnt (fun q hq f hf => up2_slot _ _ _ _ hf)
    · rw [up2_i (by omega), up2_i (by omega)]; exact hc.1
    · rw [up2_self]
    · rw [up2_i (by omega), up2_i (by omega)]; exact hc.2.2.1
    · rw [up2_i (by omega), up2_i (by omega)]; exact hc.2.2.2.1
    · rw [up2_i (by omega), up2_i (by omega)]; exact hc.2.2.2.2
    · exact ((Kp.rf p I).u318 (by omega) _).u317 (by decide) _
    · funext i; rw [up2_i (by omega), up2_i (by omega)]

