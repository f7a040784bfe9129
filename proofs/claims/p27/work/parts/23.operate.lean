/-! THE RECURSION, second part: fireRules, operate -/
theorem hit_off {X : XS} {cs : List Nat} {ev mo : Int32} {r : Nat} {img : Nat → Int32} (h : aU (xA X) r 10 = 0) : hitA X cs ev mo r img = false := by simp [hitA, h]
theorem hit_for {X : XS} {cs : List Nat} {ev mo : Int32} {r : Nat} {img : Nat → Int32} (h : ¬ (aU (xA X) r 0 = ev ∧ aU (xA X) r 1 = mo)) : hitA X cs ev mo r img = false := by
  unfold hitA
  exact decide_eq_false (fun z => h z.2.1)
theorem hit_held {X : XS} {cs : List Nat} {ev mo : Int32} {r : Nat} {img : Nat → Int32} (h : aS (xA X) 1 = 1 ∧ r ∈ cs) : hitA X cs ev mo r img = false := by
  unfold hitA
  exact decide_eq_false (fun z => z.2.2.1 h)
theorem hit_cmp {X : XS} {cs : List Nat} {ev mo : Int32} {r : Nat} {img : Nat → Int32} (h : cmpF (aU (xA X) r 8) (rowF img (aU (xA X) r 7)) (aU (xA X) r 9) = 0) : hitA X cs ev mo r img = false := by
  unfold hitA
  exact decide_eq_false (fun z => by rw [h] at z; exact absurd z.2.2.2 (by decide))
theorem hit_yes {X : XS} {cs : List Nat} {ev mo : Int32} {r : Nat} {img : Nat → Int32} (h1 : ¬ aU (xA X) r 10 = 0) (h2 : aU (xA X) r 0 = ev ∧ aU (xA X) r 1 = mo) (h3 : ¬ (aS (xA X) 1 = 1 ∧ r ∈ cs)) (h4 : ¬ cmpF (aU (xA X) r 8) (rowF img (aU (xA X) r 7)) (aU (xA X) r 9) = 0) : hitA X cs ev mo r img = true := by
  unfold hitA
  refine decide_eq_true ⟨h1, h2, h3, ?_⟩
  rcases cmpF_01 (aU (xA X) r 8) (rowF img (aU (xA X) r 7)) (aU (xA X) r 9) with h | h
  · exact absurd h h4
  · exact h
theorem one0 {c : Prop} [Decidable c] (h : ¬ (if c then (1 : Int32) else 0) = 0) : c := Decidable.byContradiction fun z => h (if_neg z)
theorem zer0 {c : Prop} [Decidable c] (h : (if c then (1 : Int32) else 0) = 0) : ¬ c := fun z => by rw [if_pos z] at h; exact absurd h (by decide)
theorem SubOK.S {d e : Nat} {sub : SubT} {cs : List Nat} {Q : Nat → Nat} (h : SubOK d e sub cs Q) : True := trivial
set_option maxRecDepth 100000 in
set_option maxHeartbeats 1600000 in
theorem S_fireRules (d e : Nat) (sub : SubT) (cs : List Nat) (Q : Nat → Nat) (ev mo : Int32) (img : Nat → Int32) (X : XS) (I : MI) (R : MR) (h1 : 1 ≤ d) (h8 : d ≤ 8) (he : 2 ≤ e) (hsub : SubOK d e sub cs Q) (hss : SubS sub) (hFR : FR R) (hE : EX Q I R X) (hO : xO X ≤ 100) (hL : Lv I) (hG : FlG I (aS (xA X) 1) cs) (himg : ∀ t, t < 4 → I (62 - 2 * d) t = img t) : Sp (e + 3) 0 0 mX0_fireRules [.ref 1, .int ev, .int mo, .ref (61 - 2 * d)] g0 I R (FiPo Q I R d (aS (xA X) 1) (fldA sub d cs ev mo (odA (xA X)) 0 (aM (xA X)) img X)) := by
  have hm := hE.2.2.1.1.2.1
  have hk1 := ka1
  have hk2 := ka_sta isB2
  have hk3 := ka_rls isB2
  have hkl := kaL h1 h8
  have hki := kaI h1 h8
  have he0 := hFR.2.2.1.1
  refine Sp.on (by decide +kernel) rfl rfl (fun J hM => ?_)
  have hJ := hM.ok
  have loop : ∀ (k j : Nat) (I' : MI) (R' : MR) (X' : XS) (img' : Nat → Int32) (w6 w7 : Option Value), j + k = aM (xA X) → FR R' → EX Q I' R' X' → xO X' ≤ 100 → (∀ t, t < 4 → I' (62 - 2 * d) t = img' t) → FrE (62 - 2 * d) I I' → Out R R' 4 5 → FlP I I' (aS (xA X) 1) → Stb X X' → fldA sub d cs ev mo (odA (xA X)) 0 (aM (xA X)) img X = fldA sub d cs ev mo (odA (xA X)) j k img' X' → J 0 0 12 [some (.ref 1), some (.int ev), some (.int mo), some (.ref (61 - 2 * d)), some (.ref (2 + 23)), some (.int (nI j)), w6, w7] [] g0 I' R' := by
    intro k
    induction k with
    | zero =>
      intro j I' R' X' img' w6 w7 hj hFR' hE' hO' himg' hF' hR' hP' hst hf
      refine q_iload hJ dX0_fireRules_12 (q := 14) rfl rfl ?_
      refine q_aload hJ dX0_fireRules_14 (q := 16) rfl rfl (by first | rfl | exact isR_rr _) ?_
      refine q_getI hJ dX0_fireRules_16 (q := 19) rfl fl_X0_184 rfl hk3 (show _ = nI (aM (xA X)) from by rw [hE'.2.2.1.1.1, hst.2.1]) ?_
      refine q_icmp_ge hJ (tgt := 111) dX0_fireRules_19 (q := 22) rfl (by decide) (fun _ => ?_) (fun c0 => absurd ((nI_leI (by omega) (by omega)).mpr (by omega)) c0)
      refine q_iconst hJ (v := 1) dX0_fireRules_111 (q := 112) rfl (by decide) ?_
      refine q_iret hM dX0_fireRules_112 rfl (nz rfl (by decide)) ?_
      rw [hf]
      exact ⟨rfl, rfl, hE', himg', hF', hR', hFR', hP'⟩
    | succ k ih =>
      intro j I' R' X' img' w6 w7 hj hFR' hE' hO' himg' hF' hR' hP' hst hf
      have hGG : aS (xA X') 1 = aS (xA X) 1 := by rw [hst.2.2]
      have hG' : FlG I' (aS (xA X') 1) cs := by rw [hGG]; exact hG.keep hP'
      have hrm0 := osrt_lt (rkF (aU (xA X))) (aM (xA X)) j (by omega)
      have hrm : odA (xA X) j < aM (xA X') := by rw [hst.2.1]; exact hrm0
      have hr12 : odA (xA X) j < 12 := Nat.lt_of_lt_of_le hrm0 hm
      have hod : I' (2 + 25) j = nI (odA (xA X) j) := by rw [← odA_stb hst]; exact hE'.2.2.1.2.2 j (by rw [hst.2.1]; omega)
      have hqq := Q_in hE'.2.2.1 hr12
      have hkq : KA g0 (Q (odA (xA X) j)) 5 0 := ka_rul isB2 (by omega) (by omega)
      refine q_iload hJ dX0_fireRules_12 (q := 14) rfl rfl ?_
      refine q_aload hJ dX0_fireRules_14 (q := 16) rfl rfl (by first | rfl | exact isR_rr _) ?_
      refine q_getI hJ dX0_fireRules_16 (q := 19) rfl fl_X0_184 rfl hk3 (show _ = nI (aM (xA X)) from by rw [hE'.2.2.1.1.1, hst.2.1]) ?_
      refine q_icmp_ge hJ (tgt := 111) dX0_fireRules_19 (q := 22) rfl (by decide) (fun c0 => absurd ((nI_leI (by omega) (by omega)).mp c0) (by omega)) (fun _ => ?_)
      refine q_iload hJ dX0_fireRules_22 (q := 24) rfl rfl ?_
      refine q_bipush hJ (v := 12) dX0_fireRules_24 (q := 26) rfl (by decide) ?_
      refine q_icmp_ge hJ (tgt := 111) dX0_fireRules_26 (q := 29) rfl (by decide) (fun c00 => absurd (by rw [nI_12] at c00; exact (nI_leI (by decide) (by omega)).mp c00) (by omega)) (fun _ => ?_)
      refine q_aload hJ dX0_fireRules_29 (q := 31) rfl rfl (by first | rfl | exact isR_rr _) ?_
      refine q_iload hJ dX0_fireRules_31 (q := 33) rfl rfl ?_
      refine q_callV hJ dX0_fireRules_33 (q := 36) rfl (S_numberAt 2 (aM (xA X')) Q (nI j) I' R' isB2 hFR' hE'.2.2.1.1) imX6_numberAt ln_X0_187 hk3 (by decide) rfl rfl rfl rfl (Nat.le_of_ble_eq_true rfl) (rmOK (by omega) (by decide)) ⟨Nat.le_refl _, Nat.le_refl _⟩ rfl rfl (fun rv gv Iv Rv hv => ?_)
      obtain ⟨rfl, rfl, rfl, rfl⟩ := hv
      rw [numF_in (by rw [hst.2.1]; omega) (by rw [hst.2.1]; exact hm), hod]
      refine q_istore hJ dX0_fireRules_36 (q := 38) rfl (by decide) ?_
      refine q_aload hJ dX0_fireRules_38 (q := 40) rfl rfl (by first | rfl | exact isR_rr _) ?_
      refine q_iload hJ dX0_fireRules_40 (q := 42) rfl rfl ?_
      refine q_callV hJ dX0_fireRules_42 (q := 45) rfl (S_ruleOf 2 (aM (xA X')) Q (nI (odA (xA X) j)) I' R' isB2 hFR' hE'.2.2.1.1) imX6_ruleOf ln_X0_190 hk3 (by decide) rfl rfl rfl rfl (Nat.le_of_ble_eq_true rfl) (rmOK (by omega) (by decide)) ⟨Nat.le_refl _, Nat.le_refl _⟩ rfl rfl (fun rv gv Iv Rv hv => ?_)
      obtain ⟨rfl, rfl, rfl, rfl⟩ := hv
      rw [rowAtF_in12 hrm (by rw [hst.2.1]; exact hm)]
      refine q_astore hJ dX0_fireRules_45 (q := 47) rfl (by decide) (by first | rfl | exact isR_rr _) ?_
      refine q_aload hJ dX0_fireRules_47 (q := 49) rfl rfl (by first | rfl | exact isR_rr _) ?_
      refine q_nullN hJ dX0_fireRules_49 (q := 52) rfl ?_
      refine q_aload hJ dX0_fireRules_52 (q := 54) rfl rfl (by first | rfl | exact isR_rr _) ?_
      refine q_getI hJ dX0_fireRules_54 (q := 57) rfl fl_X0_194 rfl hkq (hE'.2.2.1.2.1 (odA (xA X) j) hrm 10 (by decide)) ?_
      refine q_if_eq hJ (tgt := 105) dX0_fireRules_57 (q := 60) rfl (by decide) (fun c1 => ?_) (fun c1 => ?_)
      · have hn : ¬ hitA X' cs ev mo (odA (xA X) j) img' = true := by
          rw [show hitA X' cs ev mo (odA (xA X) j) img' = false from by
            first | exact hit_off c1 | exact hit_for (zer0 c2) | exact hit_cmp c4 | exact hit_held ⟨(one0 c3).1, Decidable.byContradiction fun z => (one0 c3).2 (by rw [hG' (one0 c3).1 _ hr12, if_neg z])⟩]
          decide
        refine q_iinc hJ dX0_fireRules_105 (q := 108) rfl (by decide) rfl (nI_1 j) ?_
        refine q_goto hJ (tgt := 12) dX0_fireRules_108 (by decide) ?_
        exact ih (j + 1) _ _ _ _ _ _ (by omega) hFR' hE' hO' himg' hF' hR' hP' hst (by rw [hf, fldA, if_neg hn])
      · refine q_aload hJ dX0_fireRules_60 (q := 62) rfl rfl (by first | rfl | exact isR_rr _) ?_
        refine q_iload_n hJ dX0_fireRules_62 (q := 63) rfl rfl ?_
        refine q_iload_n hJ dX0_fireRules_63 (q := 64) rfl rfl ?_
        refine q_callV hJ dX0_fireRules_64 (q := 67) rfl (S_isFor (Q (odA (xA X) j)) ev mo I' R' hkq) imX5_isFor ln_X0_198 hkq (by decide) rfl rfl rfl rfl (Nat.le_of_ble_eq_true rfl) (rmOK (by omega) (by decide)) ⟨Nat.le_refl _, Nat.le_refl _⟩ rfl rfl (fun rv gv Iv Rv hv => ?_)
        obtain ⟨rfl, rfl, rfl, rfl⟩ := hv
        rw [(hE'.2.2.1.2.1 (odA (xA X) j) hrm 0 (by decide)), (hE'.2.2.1.2.1 (odA (xA X) j) hrm 1 (by decide))]
        refine q_if_eq hJ (tgt := 105) dX0_fireRules_67 (q := 70) rfl (by decide) (fun c2 => ?_) (fun c2 => ?_)
        · have hn : ¬ hitA X' cs ev mo (odA (xA X) j) img' = true := by
            rw [show hitA X' cs ev mo (odA (xA X) j) img' = false from by
              first | exact hit_off c1 | exact hit_for (zer0 c2) | exact hit_cmp c4 | exact hit_held ⟨(one0 c3).1, Decidable.byContradiction fun z => (one0 c3).2 (by rw [hG' (one0 c3).1 _ hr12, if_neg z])⟩]
            decide
          refine q_iinc hJ dX0_fireRules_105 (q := 108) rfl (by decide) rfl (nI_1 j) ?_
          refine q_goto hJ (tgt := 12) dX0_fireRules_108 (by decide) ?_
          exact ih (j + 1) _ _ _ _ _ _ (by omega) hFR' hE' hO' himg' hF' hR' hP' hst (by rw [hf, fldA, if_neg hn])
        · refine q_aload_n hJ dX0_fireRules_70 (q := 71) rfl rfl (by first | rfl | exact isR_rr _) ?_
          refine q_iload hJ dX0_fireRules_71 (q := 73) rfl rfl ?_
          refine q_callV hJ dX0_fireRules_73 (q := 76) rfl (S_heldBack (odA (xA X) j) I' R' hFR' hr12) imX0_isHeldBack ln_X0_202 hk1 (by decide) rfl rfl rfl rfl (Nat.le_of_ble_eq_true rfl) (rmOK (by omega) (by decide)) ⟨Nat.le_refl _, Nat.le_refl _⟩ rfl rfl (fun rv gv Iv Rv hv => ?_)
          obtain ⟨rfl, rfl, rfl, rfl⟩ := hv
          rw [show I' 2 4 = aS (xA X') 1 from hE'.1 1 (by decide)]
          refine q_if_ne hJ (tgt := 105) dX0_fireRules_76 (q := 79) rfl (by decide) (fun c3 => ?_) (fun c3 => ?_)
          · have hn : ¬ hitA X' cs ev mo (odA (xA X) j) img' = true := by
              rw [show hitA X' cs ev mo (odA (xA X) j) img' = false from by
                first | exact hit_off c1 | exact hit_for (zer0 c2) | exact hit_cmp c4 | exact hit_held ⟨(one0 c3).1, Decidable.byContradiction fun z => (one0 c3).2 (by rw [hG' (one0 c3).1 _ hr12, if_neg z])⟩]
              decide
            refine q_iinc hJ dX0_fireRules_105 (q := 108) rfl (by decide) rfl (nI_1 j) ?_
            refine q_goto hJ (tgt := 12) dX0_fireRules_108 (by decide) ?_
            exact ih (j + 1) _ _ _ _ _ _ (by omega) hFR' hE' hO' himg' hF' hR' hP' hst (by rw [hf, fldA, if_neg hn])
          · have c3' : ¬ (aS (xA X') 1 = 1 ∧ odA (xA X) j ∈ cs) := fun z => zer0 c3 ⟨z.1, by rw [hG' z.1 _ hr12, if_pos z.2]; decide⟩
            refine q_aload hJ dX0_fireRules_79 (q := 81) rfl rfl (by first | rfl | exact isR_rr _) ?_
            refine q_aload_n hJ dX0_fireRules_81 (q := 82) rfl rfl (by first | rfl | exact isR_rr _) ?_
            refine q_getR hJ dX0_fireRules_82 (q := 85) rfl fl_X0_63 rfl hkl (lev_fr hFR' h1 h8) rfl ?_
            refine q_callV hJ dX0_fireRules_85 (q := 88) rfl (S_holdsFor (Q (odA (xA X) j)) (62 - 2 * d) I' R' hkq hki) imX5_holdsFor ln_X0_205 hkq (by decide) rfl rfl rfl rfl (Nat.le_of_ble_eq_true rfl) (rmOK (by omega) (by decide)) ⟨Nat.le_refl _, Nat.le_refl _⟩ rfl rfl (fun rv gv Iv Rv hv => ?_)
            obtain ⟨rfl, rfl, rfl, rfl⟩ := hv
            rw [(hE'.2.2.1.2.1 (odA (xA X) j) hrm 8 (by decide)), (hE'.2.2.1.2.1 (odA (xA X) j) hrm 7 (by decide)), (hE'.2.2.1.2.1 (odA (xA X) j) hrm 9 (by decide)), rowF_congr himg']
            refine q_if_eq hJ (tgt := 105) dX0_fireRules_88 (q := 91) rfl (by decide) (fun c4 => ?_) (fun c4 => ?_)
            · have hn : ¬ hitA X' cs ev mo (odA (xA X) j) img' = true := by
                rw [show hitA X' cs ev mo (odA (xA X) j) img' = false from by
                  first | exact hit_off c1 | exact hit_for (zer0 c2) | exact hit_cmp c4 | exact hit_held ⟨(one0 c3).1, Decidable.byContradiction fun z => (one0 c3).2 (by rw [hG' (one0 c3).1 _ hr12, if_neg z])⟩]
                decide
              refine q_iinc hJ dX0_fireRules_105 (q := 108) rfl (by decide) rfl (nI_1 j) ?_
              refine q_goto hJ (tgt := 12) dX0_fireRules_108 (by decide) ?_
              exact ih (j + 1) _ _ _ _ _ _ (by omega) hFR' hE' hO' himg' hF' hR' hP' hst (by rw [hf, fldA, if_neg hn])
            · have hhit : hitA X' cs ev mo (odA (xA X) j) img' = true := hit_yes c1 (one0 c2) c3' c4
              refine q_aload_n hJ dX0_fireRules_91 (q := 92) rfl rfl (by first | rfl | exact isR_rr _) ?_
              refine q_iload hJ dX0_fireRules_92 (q := 94) rfl rfl ?_
              refine q_aload hJ dX0_fireRules_94 (q := 96) rfl rfl (by first | rfl | exact isR_rr _) ?_
              refine q_aload_n hJ dX0_fireRules_96 (q := 97) rfl rfl (by first | rfl | exact isR_rr _) ?_
              refine q_callV hJ dX0_fireRules_97 (q := 100) rfl (S_fire d e sub cs Q (odA (xA X) j) img' X' I' R' h1 h8 he hsub hFR' hE' hO' (hL.keep hF') hG' (fun g => fun z => c3' ⟨g, z⟩) hrm himg') imX0_fire ln_X0_209 hk1 (by decide) rfl rfl rfl rfl (Nat.le_of_ble_eq_true rfl) (rmOK (by omega) (by decide)) ⟨Nat.le_refl _, Nat.le_refl _⟩ rfl rfl (fun rv gv Iv Rv hv => ?_)
              obtain ⟨rfl, rfl, hE3, hI3, hF3, hR3, hFR3, hP3⟩ := hv
              rw [hGG] at hP3
              have hfs := fire_stb hss d (odA (xA X) j) img' X'
              by_cases hb : (fireA sub d (odA (xA X) j) img' X').1 = true
              · have hbv : ¬ (if (fireA sub d (odA (xA X) j) img' X').1 = true then (1 : Int32) else 0) = 0 := by rw [if_pos hb]; decide
                refine q_if_ne hJ (tgt := 105) dX0_fireRules_100 (q := 103) rfl (by decide) (fun _ => ?_) (fun c9 => absurd c9 hbv)
                refine q_iinc hJ dX0_fireRules_105 (q := 108) rfl (by decide) rfl (nI_1 j) ?_
                refine q_goto hJ (tgt := 12) dX0_fireRules_108 (by decide) ?_
                exact ih (j + 1) _ _ _ _ _ _ (by omega) hFR3 hE3 (hfs.2 hO') hI3 (hF'.trans hF3) (hR'.trans hR3) (hP'.trans hP3) (hst.trans hfs.1) (by rw [hf, fldA, if_pos hhit, if_pos hb])
              · have hbv : (if (fireA sub d (odA (xA X) j) img' X').1 = true then (1 : Int32) else 0) = 0 := if_neg hb
                refine q_if_ne hJ (tgt := 105) dX0_fireRules_100 (q := 103) rfl (by decide) (fun c9 => absurd hbv c9) (fun _ => ?_)
                refine q_iconst hJ (v := 0) dX0_fireRules_103 (q := 104) rfl (by decide) ?_
                refine q_iret hM dX0_fireRules_104 rfl (nz rfl (by decide)) ?_
                rw [hf, fldA, if_pos hhit, if_neg hb]
                refine ⟨?_, rfl, hE3, hI3, hF'.trans hF3, hR'.trans hR3, hFR3, hP'.trans hP3⟩
                rw [if_neg hb]
  refine q_aload_n hJ dX0_fireRules_0 (q := 1) rfl rfl (by first | rfl | exact isR_rr _) ?_
  refine q_getR hJ dX0_fireRules_1 (q := 4) rfl fl_X0_12 rfl hk1 he0 rfl ?_
  refine q_getR hJ dX0_fireRules_4 (q := 7) rfl fl_X0_180 rfl hk2 (hFR.1 2 isB2).2.1 rfl ?_
  refine q_astore hJ dX0_fireRules_7 (q := 9) rfl (by decide) (by first | rfl | exact isR_rr _) ?_
  refine q_iconst hJ (v := 0) dX0_fireRules_9 (q := 10) rfl (by decide) ?_
  refine q_istore hJ dX0_fireRules_10 (q := 12) rfl (by decide) ?_
  exact loop (aM (xA X)) 0 I R X img none none (by omega) hFR hE hO himg (FrE.rf _ _) (Out.rf _ _ _) (FlP.rf _ _) (Stb.rf X) rfl

theorem EX.beg {Q : Nat → Nat} {I : MI} {R : MR} {X : XS} (h : EX Q I R X) (d : Nat) : EX Q (up2 (up2 I 1 3 (nI (xO X + 1))) 1 5 (if xD X < nI d then nI d else xD X)) R (begA d X) := by
  obtain ⟨h1, h2, h3, h4, h5, h6, h7, h8, h9⟩ := h
  have ag : Agr I (up2 (up2 I 1 3 (nI (xO X + 1))) 1 5 (if xD X < nI d then nI d else xD X)) 2 44 := fun a q1 q2 => by rw [up2_other _ _ _ _ (by omega), up2_other _ _ _ _ (by omega)]
  exact ⟨h1.agr (fun a q1 q2 => ag a (by omega) (by omega)), h2.agr (fun a q1 q2 => ag a (by omega) (by omega)) (Agr.rf _ _ _), h3.agr (fun a q1 q2 => ag a (by omega) (by omega)) (Agr.rf _ _ _), h4.agr (fun a q1 q2 => ag a (by omega) (by omega)), by simp [up2_app, begA], by simp [up2_app, begA, h6], by simp [up2_app, begA], by simp [up2_app, begA, h8], by simp [up2_app, begA, h9]⟩
theorem EX.car {Q : Nat → Nat} {I I' : MI} {R R' : MR} {X : XS} (h : EX Q I R X) (ev : Int32) (img : Nat → Int32) (hT : TabC I' R' 2 (aK (carA ev img (xA X))) (aN (carA ev img (xA X)))) (hO : Out I I' 3 25) (hR : Out R R' 4 5) : EX Q I' R' ((carA ev img (xA X), X.2) : XS) := by
  obtain ⟨h1, h2, h3, h4, h5⟩ := h
  obtain ⟨eU, eM, eS, eC, eR⟩ := car_U ev img (xA X)
  refine ⟨?_, hT, ?_, ?_, ?_⟩
  · show SetC I' 2 (aS (carA _ _ _))
    rw [eS]
    exact h1.agr (hO.agr (by omega))
  · show RulQ I' R' 2 Q (aU (carA _ _ _)) (aM (carA _ _ _))
    rw [eU, eM]
    exact h3.agr (hO.agr (by omega)) (hR.agr (by omega))
  · show LogC I' 2 (aC (carA _ _ _)) (aR (carA _ _ _))
    rw [eC, eR]
    exact h4.agr (hO.agr (by omega))
  · rw [hO 1 (by omega)]
    exact h5
theorem nI_100 : (100 : Int32) = nI 100 := by decide
set_option maxRecDepth 100000 in
set_option maxHeartbeats 1600000 in
theorem S_operB (d e : Nat) (sub : SubT) (cs : List Nat) (Q : Nat → Nat) (ev cause : Int32) (img : Nat → Int32) (X : XS) (I : MI) (R : MR) (h1 : 1 ≤ d) (h8 : d ≤ 8) (he : 2 ≤ e) (hsub : SubOK d e sub cs Q) (hss : SubS sub) (hFR : FR R) (hE : EX Q I R X) (hO : xO X ≤ 100) (hL : Lv I) (hG : FlG I (aS (xA X) 1) cs) (himg : ∀ t, t < 4 → I (62 - 2 * d) t = img t) : Sp (e + 4) 0 0 mX0_operate [.ref 1, .int ev, .ref (61 - 2 * d), .int cause] g0 I R (OpPo Q I R (62 - 2 * d) (aS (xA X) 1) (opB sub d cs ev cause img X)) := by
  have hm := hE.2.2.1.1.2.1
  have hk1 := ka1
  have hk2 := ka_sta isB2
  have hk3 := ka_rls isB2
  have hkl := kaL h1 h8
  have hki := kaI h1 h8
  have he0 := hFR.2.2.1.1
  have hli := lev_fr hFR h1 h8
  refine Sp.on (by decide +kernel) rfl rfl (fun J hM => ?_)
  have hJ := hM.ok
  refine q_aload_n hJ dX0_operate_0 (q := 1) rfl rfl (by first | rfl | exact isR_rr _) ?_
  refine q_getI hJ dX0_operate_1 (q := 4) rfl fl_X0_106 rfl hk1 (show _ = nI (xO X) from hE.2.2.2.2.1) ?_
  refine q_bipush hJ (v := 100) dX0_operate_4 (q := 6) rfl (by decide) ?_
  refine q_icmp_lt hJ (tgt := 16) dX0_operate_6 (q := 9) rfl (by decide) (fun c1 => ?_) (fun c1 => ?_)
  · have hlt : ¬ 100 ≤ xO X := fun z => absurd c1 (Int32.not_lt.mpr (by rw [nI_100]; exact (nI_leI (by decide) (by omega)).mpr z))
    refine q_aload_n hJ dX0_operate_16 (q := 17) rfl rfl (by first | rfl | exact isR_rr _) ?_
    refine q_dup hJ dX0_operate_17 (q := 18) rfl rfl ?_
    refine q_getI hJ dX0_operate_18 (q := 21) rfl fl_X0_106 rfl hk1 (show _ = nI (xO X) from hE.2.2.2.2.1) ?_
    refine q_iconst hJ (v := 1) dX0_operate_21 (q := 22) rfl (by decide) ?_
    refine q_iadd hJ dX0_operate_22 (q := 23) rfl ?_
    rw [nI_1]
    refine q_putI hJ dX0_operate_23 (q := 26) rfl fl_X0_106 rfl rfl hk1 rfl rfl ?_
    refine q_aload_n hJ dX0_operate_26 (q := 27) rfl rfl (by first | rfl | exact isR_rr _) ?_
    refine q_aload_n hJ dX0_operate_27 (q := 28) rfl rfl (by first | rfl | exact isR_rr _) ?_
    refine q_getI hJ dX0_operate_28 (q := 31) rfl fl_X0_114 rfl hk1 (show _ = xD X from by simp [up2_app]; exact hE.2.2.2.2.2.2.1) ?_
    refine q_aload_n hJ dX0_operate_31 (q := 32) rfl rfl (by first | rfl | exact isR_rr _) ?_
    refine q_getI hJ dX0_operate_32 (q := 35) rfl fl_X0_162 rfl hkl (show _ = nI d from by rw [up2_other _ _ _ _ (by omega)]; exact hL d h1 h8) ?_
    refine q_max hJ dX0_operate_35 (q := 38) rfl ln_X0_115 mw_max rfl (Nat.le_of_ble_eq_true rfl) ⟨by show 1 ≤ e + 4; omega, by show 21 ≤ 40 * (e + 4); omega⟩ ⟨Nat.le_refl _, Nat.le_refl _⟩ ?_
    refine q_putI hJ dX0_operate_38 (q := 41) rfl fl_X0_114 rfl rfl hk1 rfl rfl ?_
    refine q_aload_n hJ dX0_operate_41 (q := 42) rfl rfl (by first | rfl | exact isR_rr _) ?_
    refine q_iload_n hJ dX0_operate_42 (q := 43) rfl rfl ?_
    refine q_iconst hJ (v := 0) dX0_operate_43 (q := 44) rfl (by decide) ?_
    refine q_aload_n hJ dX0_operate_44 (q := 45) rfl rfl (by first | rfl | exact isR_rr _) ?_
    have hEB := hE.beg d
    have hFB : FrE (62 - 2 * d) I (up2 (up2 I 1 3 (nI (xO X + 1))) 1 5 (if xD X < nI d then nI d else xD X)) := ((FrE.rf _ I).up (Or.inl (by omega))).up (Or.inl (by omega))
    have hLB := hL.keep hFB
    have hPB : FlP I (up2 (up2 I 1 3 (nI (xO X + 1))) 1 5 (if xD X < nI d then nI d else xD X)) (aS (xA X) 1) := FlP.same (by rw [up2_other _ _ _ _ (by decide), up2_other _ _ _ _ (by decide)])
    have hGB : FlG (up2 (up2 I 1 3 (nI (xO X + 1))) 1 5 (if xD X < nI d then nI d else xD X)) (aS (xA X) 1) cs := hG.keep hPB
    refine q_callV hJ dX0_operate_45 (q := 48) rfl (show Sp (e + 3) 0 0 mX0_fireRules [.ref 1, .int ev, .int 0, .ref (61 - 2 * d)] g0 (up2 (up2 I 1 3 (nI (xO X + 1))) 1 5 (if xD X < nI d then nI d else xD X)) R (FiPo Q (up2 (up2 I 1 3 (nI (xO X + 1))) 1 5 (if xD X < nI d then nI d else xD X)) R d (aS (xA X) 1) (fldA sub d cs ev 0 (odA (xA X)) 0 (aM (xA X)) img (begA d X))) from S_fireRules d e sub cs Q ev 0 img (begA d X) _ R h1 h8 he hsub hss hFR hEB (by show xO X + 1 ≤ 100; omega) hLB hGB (fun t ht => by rw [up2_other _ _ _ _ (by omega), up2_other _ _ _ _ (by omega)]; exact himg t ht)) imX0_fireRules ln_X0_165 hk1 (by decide) rfl rfl rfl rfl (Nat.le_of_ble_eq_true rfl) (rmOK (by omega) (by decide)) ⟨Nat.le_refl _, Nat.le_refl _⟩ rfl rfl (fun rv gv Iv Rv hv => ?_)
    obtain ⟨rfl, rfl, hE2, hI2, hF2, hR2, hFR2, hP2⟩ := hv
    have hfs := fld_stb hss d cs ev 0 (odA (xA X)) 0 (aM (xA X)) img (begA d X)
    have eo0 : opB sub d cs ev cause img X = if (fldA sub d cs ev 0 (odA (xA X)) 0 (aM (xA X)) img (begA d X)).1 = true then (fldA sub d cs ev 1 (odA (xA X)) 0 (aM (xA X)) (fldA sub d cs ev 0 (odA (xA X)) 0 (aM (xA X)) img (begA d X)).2.1 ((carA ev (fldA sub d cs ev 0 (odA (xA X)) 0 (aM (xA X)) img (begA d X)).2.1 (xA (fldA sub d cs ev 0 (odA (xA X)) 0 (aM (xA X)) img (begA d X)).2.2), (fldA sub d cs ev 0 (odA (xA X)) 0 (aM (xA X)) img (begA d X)).2.2.2) : XS)).2.2 else (fldA sub d cs ev 0 (odA (xA X)) 0 (aM (xA X)) img (begA d X)).2.2 := by simp only [opB, if_neg hlt]
    change FrE _ _ _ at hF2
    generalize hF : fldA sub d cs ev 0 (odA (xA X)) 0 (aM (xA X)) img (begA d X) = F at hE2 hI2 hF2 hR2 hFR2 hP2 hfs eo0 ⊢
    by_cases hb : F.1 = true
    · have hbv : ¬ (if F.1 = true then (1 : Int32) else 0) = 0 := by rw [if_pos hb]; decide
      have eo := eo0.trans (if_pos hb)
      have hGc : aS (xA ((carA ev F.2.1 (xA F.2.2), F.2.2.2) : XS)) 1 = aS (xA X) 1 := by rw [show aS (xA ((carA ev F.2.1 (xA F.2.2), F.2.2.2) : XS)) = aS (xA F.2.2) from (car_U _ _ _).2.2.1, hfs.1.2.2]; rfl
      have hmst : Stb X ((carA ev F.2.1 (xA F.2.2), F.2.2.2) : XS) := Stb.trans hfs.1 ⟨fun r f hf => by show aU (carA ev F.2.1 (xA F.2.2)) r f = _; rw [(car_U _ _ _).1], (car_U _ _ _).2.1, (car_U _ _ _).2.2.1⟩
      have hod2 : odA (xA ((carA ev F.2.1 (xA F.2.2), F.2.2.2) : XS)) = odA (xA X) := odA_stb hmst
      have hm2 : aM (xA ((carA ev F.2.1 (xA F.2.2), F.2.2.2) : XS)) = aM (xA X) := hmst.2.1
      refine q_if_ne hJ (tgt := 52) dX0_operate_48 (q := 51) rfl (by decide) (fun _ => ?_) (fun c9 => absurd c9 hbv)
      refine q_aload_n hJ dX0_operate_52 (q := 53) rfl rfl (by first | rfl | exact isR_rr _) ?_
      refine q_iload_n hJ dX0_operate_53 (q := 54) rfl rfl ?_
      refine q_aload_n hJ dX0_operate_54 (q := 55) rfl rfl (by first | rfl | exact isR_rr _) ?_
      refine q_getR hJ dX0_operate_55 (q := 58) rfl fl_X0_63 rfl hkl (lev_fr hFR2 h1 h8) rfl ?_
      refine q_callV hJ dX0_operate_58 (q := 61) rfl (S_carryOut (xA F.2.2) ev (62 - 2 * d) F.2.1 _ _ hFR2 hE2.2.1 hki (by omega) hI2) imX0_carryOut ln_X0_169 hk1 (by decide) rfl rfl rfl rfl (Nat.le_of_ble_eq_true rfl) (rmOK (by omega) (by decide)) ⟨Nat.le_refl _, Nat.le_refl _⟩ rfl rfl (fun rv gv Iv Rv hv => ?_)
      obtain ⟨rfl, rfl, hT3, hO3, hR3, hFR3⟩ := hv
      have hE3 := hE2.car ev F.2.1 hT3 hO3 hR3
      refine q_aload_n hJ dX0_operate_61 (q := 62) rfl rfl (by first | rfl | exact isR_rr _) ?_
      refine q_iload_n hJ dX0_operate_62 (q := 63) rfl rfl ?_
      refine q_iconst hJ (v := 1) dX0_operate_63 (q := 64) rfl (by decide) ?_
      refine q_aload_n hJ dX0_operate_64 (q := 65) rfl rfl (by first | rfl | exact isR_rr _) ?_
      refine q_callV hJ dX0_operate_65 (q := 68) rfl (S_fireRules d e sub cs Q ev 1 F.2.1 ((carA ev F.2.1 (xA F.2.2), F.2.2.2) : XS) _ _ h1 h8 he hsub hss hFR3 hE3 (hfs.2 (by show xO X + 1 ≤ 100; omega)) ((hLB.keep hF2).keep (hi := 60) (fun a ha => hO3 a (by omega))) (by rw [hGc]; exact (hGB.keep hP2).keep (FlP.same (hO3 44 (by omega)))) (fun t ht => by rw [hO3 _ (by omega)]; exact hI2 t ht)) imX0_fireRules ln_X0_165 hk1 (by decide) rfl rfl rfl rfl (Nat.le_of_ble_eq_true rfl) (rmOK (by omega) (by decide)) ⟨Nat.le_refl _, Nat.le_refl _⟩ rfl rfl (fun rv gv Iv Rv hv => ?_)
      obtain ⟨rfl, rfl, hE4, hI4, hF4, hR4, hFR4, hP4⟩ := hv
      rw [hGc, hod2, hm2] at *
      refine q_pop hJ dX0_operate_68 (q := 69) rfl rfl ?_
      refine q_vret hM dX0_operate_69 rfl ?_
      rw [eo]
      exact ⟨rfl, rfl, hE4, ((hFB.trans hF2).trans (fun a ha => hO3 a (by omega))).trans hF4, (hR2.trans hR3).trans hR4, hFR4, ((hPB.trans hP2).trans (FlP.same (hO3 44 (by omega)))).trans hP4⟩
    · have hbv : (if F.1 = true then (1 : Int32) else 0) = 0 := if_neg hb
      have eo := eo0.trans (if_neg hb)
      refine q_if_ne hJ (tgt := 52) dX0_operate_48 (q := 51) rfl (by decide) (fun c9 => absurd hbv c9) (fun _ => ?_)
      refine q_vret hM dX0_operate_51 rfl ?_
      rw [eo]
      exact ⟨rfl, rfl, hE2, hFB.trans hF2, hR2, hFR2, hPB.trans hP2⟩
  · refine q_aload_n hJ dX0_operate_9 (q := 10) rfl rfl (by first | rfl | exact isR_rr _) ?_
    refine q_iconst hJ (v := 3) dX0_operate_10 (q := 11) rfl (by decide) ?_
    refine q_iload_n hJ dX0_operate_11 (q := 12) rfl rfl ?_
    refine q_callV hJ dX0_operate_12 (q := 15) rfl (S_refuse 3 cause I R) imX0_refuse ln_X0_159 hk1 (by decide) rfl rfl rfl rfl (Nat.le_of_ble_eq_true rfl) (rmOK (by omega) (by decide)) ⟨Nat.le_refl _, Nat.le_refl _⟩ rfl rfl (fun rv gv Iv Rv hv => ?_)
    obtain ⟨rfl, rfl, rfl, rfl⟩ := hv
    refine q_vret hM dX0_operate_15 rfl ?_
    have hge : 100 ≤ xO X := (nI_leI (by decide) (by omega)).mp (by rw [← nI_100]; exact Int32.not_lt.mp c1)
    have eo : opB sub d cs ev cause img X = refA X 3 cause := by simp only [opB, if_pos hge]
    exact ⟨rfl, rfl, by rw [eo]; exact hE.ref 3 _, ((FrE.rf _ I).up (Or.inl (by omega))).up (Or.inl (by omega)), Out.rf _ _ _, hFR, FlP.same (by rw [up2_other _ _ _ _ (by decide), up2_other _ _ _ _ (by decide)])⟩

/-- THE OPERATION OF ANY DEPTH -/
theorem S_operA (lv : Nat) : ∀ (d : Nat), d + lv = 8 → 1 ≤ d → ∀ (cs : List Nat) (Q : Nat → Nat) (ev cause : Int32) (img : Nat → Int32) (X : XS) (I : MI) (R : MR), FR R → EX Q I R X → xO X ≤ 100 → Lv I → FlG I (aS (xA X) 1) cs → (∀ t, t < 4 → I (62 - 2 * d) t = img t) →
    Sp (6 + 4 * lv) 0 0 mX0_operate [.ref 1, .int ev, .ref (61 - 2 * d), .int cause] g0 I R (OpPo Q I R (62 - 2 * d) (aS (xA X) 1) (opA lv cs ev cause img X)) := by
  induction lv with
  | zero =>
    intro d hd h1 cs Q ev cause img X I R hFR hE hO hL hG himg
    obtain rfl : d = 8 := by omega
    exact S_operB 8 2 none cs Q ev cause img X I R h1 (by omega) (by omega) (Or.inl ⟨rfl, rfl⟩) (fun f h => by cases h) hFR hE hO hL hG himg
  | succ lv ih =>
    intro d hd h1 cs Q ev cause img X I R hFR hE hO hL hG himg
    have h := S_operB d (6 + 4 * lv) (some (fun ev2 r img2 X2 => opA lv (r :: cs) ev2 (nI r) img2 X2)) cs Q ev cause img X I R h1 (by omega) (by omega) (Or.inr ⟨_, rfl, by omega, fun ev2 r img2 X2 I2 R2 q1 q2 q3 q4 q5 q6 => by
      have hh := ih (d + 1) (by omega) (by omega) (r :: cs) Q ev2 (nI r) img2 X2 I2 R2 q1 q2 q3 q4 q5 (by rw [show 62 - 2 * (d + 1) = 60 - 2 * d by omega]; exact q6)
      rw [show 61 - 2 * (d + 1) = 59 - 2 * d by omega, show 62 - 2 * (d + 1) = 60 - 2 * d by omega] at hh
      exact hh⟩) (fun f hf ev2 r img2 X2 => by cases hf; exact opA_stb lv _ _ _ _ _) hFR hE hO hL hG himg
    obtain rfl : d = 7 - lv := by omega
    rw [show 6 + 4 * (lv + 1) = 6 + 4 * lv + 4 by omega]
    exact h
