/-! THE TEXT, second part: statements -/
def cntF (tx : Nat → Int32) (n : Nat) : Nat → Nat → PS → (Nat → Int32) → PS × Nat × (Nat → Int32)
  | 0, c, P, F => (P, c, F)
  | k + 1, c, P, F => if (stmS tx n P F).1.2 = true ∨ n ≤ (stmS tx n P F).1.1 ∨ k = 0 then ((stmS tx n P F).1, c + 1, (stmS tx n P F).2) else cntF tx n k (c + 1) (stmS tx n P F).1 (stmS tx n P F).2
def cntV (Z : PS × Nat × (Nat → Int32)) : Int32 := if Z.1.2 = true then -2000 - nI Z.1.1 else nI Z.2.1
theorem cntF_c (tx : Nat → Int32) (n : Nat) (k c : Nat) (P : PS) (F : Nat → Int32) : (cntF tx n k c P F).2.1 ≤ c + k := by
  induction k generalizing c P F with
  | zero => exact Nat.le_refl _
  | succ k ih =>
    unfold cntF
    split
    · show c + 1 ≤ _; omega
    · have := ih (c + 1) (stmS tx n P F).1 (stmS tx n P F).2
      omega
set_option maxRecDepth 100000 in
set_option maxHeartbeats 400000 in
theorem S_rewind (I : MI) (R : MR) : Sp 0 0 0 mX9_rewind [.ref 315] g0 I R (Rt none g0 (up2 (up2 I 315 2 0) 315 3 0) R) := by
  have hk := ka315
  refine Sp.on (by decide +kernel) rfl rfl (fun J hM => ?_)
  have hJ := hM.ok
  refine q_aload_n hJ dX9_rewind_0 (q := 1) rfl rfl rfl ?_
  refine q_iconst hJ (v := 0) dX9_rewind_1 (q := 2) rfl (by decide) ?_
  refine q_putI hJ dX9_rewind_2 (q := 5) rfl fl_X9_19 rfl rfl (by assumption) rfl rfl ?_
  refine q_aload_n hJ dX9_rewind_5 (q := 6) rfl rfl rfl ?_
  refine q_iconst hJ (v := 0) dX9_rewind_6 (q := 7) rfl (by decide) ?_
  refine q_putI hJ dX9_rewind_7 (q := 10) rfl fl_X9_22 rfl rfl (by assumption) (by decide) (by decide) ?_
  refine q_vret hM dX9_rewind_10 rfl ?_
  exact ⟨rfl, rfl, rfl, rfl⟩

set_option maxRecDepth 100000 in
set_option maxHeartbeats 1600000 in
theorem S_readStatement (tx : Nat → Int32) (n : Nat) (P : PS) (F : Nat → Int32) (I : MI) (R : MR) (hFR : FR R) (hT : TX I tx n P) (hF : TF I F) : Sp 5 0 0 mX9_readStatement [.ref 315] g0 I R (SmPo tx n (stmS tx n P F) I R) := by
  have hk := ka315
  have hk6 := ka316
  have hr := hFR.2.2.2.1.2
  obtain ⟨h1, h2, h3, h4, h5, h6⟩ := id hT
  refine Sp.on (by decide +kernel) rfl rfl (fun J hM => ?_)
  have hJ := hM.ok
  have body : ∀ (P' : PS) (I' : MI), TX I' tx n P' → TF I' F → (∀ a, a ≠ 315 → I' a = I a) → stmS tx n P F = bodS tx n P' F → J 0 0 13 [some (.ref 315)] [] g0 I' R := by
    intro P' I' hT' hF' hO' hs
    refine q_aload_n hJ dX9_readStatement_13 (q := 14) rfl rfl rfl ?_
    refine q_callV hJ dX9_readStatement_14 (q := 17) rfl (S_here tx n P' I' R hFR hT') imX9_here ln_X9_36 (by assumption) (by decide) rfl rfl rfl rfl (Nat.le_of_ble_eq_true rfl) (by decide) (by decide) rfl rfl (fun rv gv Iv Rv hv => ?_)
    obtain ⟨rfl, rfl, rfl, rfl⟩ := hv
    by_cases k_0 : hereF tx n P' = 100
    · refine q_lsw hJ (off := 49) (tgt := 66) dX9_readStatement_17 (by decide) (by rw [k_0]; decide) (by decide) ?_
      have es : stmS tx n P F = delS tx n P' F := by rw [hs, bodS, if_pos k_0]
      refine q_aload_n hJ dX9_readStatement_66 (q := 67) rfl rfl rfl ?_
      refine q_iconst hJ (v := 2) dX9_readStatement_67 (q := 68) rfl (by decide) ?_
      refine q_putI hJ dX9_readStatement_68 (q := 71) rfl fl_X9_46 rfl rfl (by assumption) rfl rfl ?_
      refine q_aload_n hJ dX9_readStatement_71 (q := 72) rfl rfl rfl ?_
      refine q_bipush hJ (v := 100) dX9_readStatement_72 (q := 74) rfl (by decide) ?_
      refine q_callV hJ dX9_readStatement_74 (q := 77) rfl (S_pass1 tx n P' 100 _ R hFR (hT'.f (by omega)) (by decide)) imX9_pass ln_X9_32 (by assumption) (by decide) rfl rfl rfl rfl (Nat.le_of_ble_eq_true rfl) (by decide) (by decide) rfl rfl (fun rv gv Iv Rv hv => ?_)
      obtain ⟨P1, hP1, rfl, rfl, rfl, hT1, hO1, hK1⟩ := hv
      refine q_aload_n hJ dX9_readStatement_77 (q := 78) rfl rfl rfl ?_
      refine q_aload_n hJ dX9_readStatement_78 (q := 79) rfl rfl rfl ?_
      refine q_iconst hJ (v := 2) dX9_readStatement_79 (q := 80) rfl (by decide) ?_
      refine q_callV hJ dX9_readStatement_80 (q := 83) rfl (S_readNumber2 tx n P1 2 _ R hFR hT1 (by decide)) imX9_readNumber ln_X9_49 (by assumption) (by decide) rfl rfl rfl rfl (Nat.le_of_ble_eq_true rfl) (by decide) (by decide) rfl rfl (fun rv gv Iv Rv hv => ?_)
      obtain ⟨v3, P3, hP3, rfl, rfl, rfl, hT3, hO3, hK3⟩ := hv
      refine q_putI hJ dX9_readStatement_83 (q := 86) rfl fl_X9_53 rfl rfl (by assumption) rfl rfl ?_
      have ex : delS tx n P' F = (P3, fun k => if k = 4 then 2 else if k = 5 then v3 else F k) := by
        simp only [delS, hP1, hP3]
      rw [ex] at es
      refine q_goto hJ (tgt := 94) dX9_readStatement_86 (by decide) ?_
      refine q_vret hM dX9_readStatement_94 rfl ?_
      rw [es]
      refine ⟨rfl, rfl, rfl, hT3.f (by omega), fun k q1 q2 => ?_, fun a ha => by rw [t_o a ha, hO3 a ha, hO1 a ha, t_o a ha, hO' a ha]⟩
      rcases (show k = 4 ∨ k = 5 ∨ k = 6 ∨ k = 7 ∨ k = 8 ∨ k = 9 by omega) with rfl | rfl | rfl | rfl | rfl | rfl
      · show _ = 2
        rw [up2_app, if_neg (by decide), hK3 4 (by decide) (by decide), hK1 4 (by decide) (by decide), up2_app, if_pos ⟨rfl, rfl⟩]
      · show _ = v3
        rw [up2_app, if_pos ⟨rfl, rfl⟩]
      · show _ = F 6
        rw [up2_app, if_neg (by decide), hK3 6 (by decide) (by decide), hK1 6 (by decide) (by decide), up2_app, if_neg (by decide)]
        exact hF' 6 (by decide) (by decide)
      · show _ = F 7
        rw [up2_app, if_neg (by decide), hK3 7 (by decide) (by decide), hK1 7 (by decide) (by decide), up2_app, if_neg (by decide)]
        exact hF' 7 (by decide) (by decide)
      · show _ = F 8
        rw [up2_app, if_neg (by decide), hK3 8 (by decide) (by decide), hK1 8 (by decide) (by decide), up2_app, if_neg (by decide)]
        exact hF' 8 (by decide) (by decide)
      · show _ = F 9
        rw [up2_app, if_neg (by decide), hK3 9 (by decide) (by decide), hK1 9 (by decide) (by decide), up2_app, if_neg (by decide)]
        exact hF' 9 (by decide) (by decide)
    by_cases k_1 : hereF tx n P' = 105
    · refine q_lsw hJ (off := 35) (tgt := 52) dX9_readStatement_17 (by decide) (by rw [k_1]; decide) (by decide) ?_
      have es : stmS tx n P F = insS tx n P' F := by rw [hs, bodS, if_neg (by rw [k_1]; decide), if_pos k_1]
      refine q_aload_n hJ dX9_readStatement_52 (q := 53) rfl rfl rfl ?_
      refine q_callV hJ dX9_readStatement_53 (q := 56) rfl (S_readInsert tx n P' F I' R hFR hT' hF') imX9_readInsert ln_X9_40 (by assumption) (by decide) rfl rfl rfl rfl (Nat.le_of_ble_eq_true rfl) (by decide) (by decide) rfl rfl (fun rv gv Iv Rv hv => ?_)
      obtain ⟨rfl, rfl, rfl, hT2, hF2, hO2⟩ := hv
      rw [← es] at hT2 hF2
      refine q_goto hJ (tgt := 94) dX9_readStatement_56 (by decide) ?_
      refine q_vret hM dX9_readStatement_94 rfl ?_
      first
        | exact ⟨rfl, rfl, rfl, hT2, hF2, fun a ha => (hO2 a ha).trans (hO' a ha)⟩
        | (have es : stmS tx n P F = ((P'.1, true), F) := by rw [hs, bodS, if_neg k_0, if_neg k_1, if_neg k_2]
           rw [es]
           exact ⟨rfl, rfl, rfl, hT'.bad, fun k q1 q2 => by rw [up2_app, if_neg (fun z => by omega)]; exact hF' k q1 q2, fun a ha => by rw [t_o a ha, hO' a ha]⟩)
    by_cases k_2 : hereF tx n P' = 117
    · refine q_lsw hJ (off := 42) (tgt := 59) dX9_readStatement_17 (by decide) (by rw [k_2]; decide) (by decide) ?_
      have es : stmS tx n P F = updS tx n P' F := by rw [hs, bodS, if_neg (by rw [k_2]; decide), if_neg (by rw [k_2]; decide), if_pos k_2]
      refine q_aload_n hJ dX9_readStatement_59 (q := 60) rfl rfl rfl ?_
      refine q_callV hJ dX9_readStatement_60 (q := 63) rfl (S_readUpdate tx n P' F I' R hFR hT' hF') imX9_readUpdate ln_X9_43 (by assumption) (by decide) rfl rfl rfl rfl (Nat.le_of_ble_eq_true rfl) (by decide) (by decide) rfl rfl (fun rv gv Iv Rv hv => ?_)
      obtain ⟨rfl, rfl, rfl, hT2, hF2, hO2⟩ := hv
      rw [← es] at hT2 hF2
      refine q_goto hJ (tgt := 94) dX9_readStatement_63 (by decide) ?_
      refine q_vret hM dX9_readStatement_94 rfl ?_
      first
        | exact ⟨rfl, rfl, rfl, hT2, hF2, fun a ha => (hO2 a ha).trans (hO' a ha)⟩
        | (have es : stmS tx n P F = ((P'.1, true), F) := by rw [hs, bodS, if_neg k_0, if_neg k_1, if_neg k_2]
           rw [es]
           exact ⟨rfl, rfl, rfl, hT'.bad, fun k q1 q2 => by rw [up2_app, if_neg (fun z => by omega)]; exact hF' k q1 q2, fun a ha => by rw [t_o a ha, hO' a ha]⟩)
    refine q_lsw hJ (off := 72) (tgt := 89) dX9_readStatement_17 (by decide) (lsw_out3 (k0 := 100) (by decide) k_0 (k1 := 105) (by decide) k_1 (k2 := 117) (by decide) k_2) (by decide) ?_
    refine q_aload_n hJ dX9_readStatement_89 (q := 90) rfl rfl rfl ?_
    refine q_iconst hJ (v := 1) dX9_readStatement_90 (q := 91) rfl (by decide) ?_
    refine q_putI hJ dX9_readStatement_91 (q := 94) rfl fl_X9_22 rfl rfl (by assumption) (by decide) (by decide) ?_
    refine q_vret hM dX9_readStatement_94 rfl ?_
    first
      | exact ⟨rfl, rfl, rfl, hT2, hF2, fun a ha => (hO2 a ha).trans (hO' a ha)⟩
      | (have es : stmS tx n P F = ((P'.1, true), F) := by rw [hs, bodS, if_neg k_0, if_neg k_1, if_neg k_2]
         rw [es]
         exact ⟨rfl, rfl, rfl, hT'.bad, fun k q1 q2 => by rw [up2_app, if_neg (fun z => by omega)]; exact hF' k q1 q2, fun a ha => by rw [t_o a ha, hO' a ha]⟩)
  refine q_aload_n hJ dX9_readStatement_0 (q := 1) rfl rfl rfl ?_
  refine q_getI hJ dX9_readStatement_1 (q := 4) rfl fl_X9_19 rfl (by assumption) h5 ?_
  refine q_if_le hJ (tgt := 13) dX9_readStatement_4 (q := 7) rfl (by decide) (fun c1 => ?_) (fun c1 => ?_)
  · have hp0 : ¬ 0 < P.1 := fun z => absurd c1 (nI_nle z (by omega))
    exact body P I hT hF (fun _ _ => rfl) (by rw [stmS, if_neg hp0])
  · refine q_aload_n hJ dX9_readStatement_7 (q := 8) rfl rfl rfl ?_
    refine q_bipush hJ (v := 59) dX9_readStatement_8 (q := 10) rfl (by decide) ?_
    refine q_callV hJ dX9_readStatement_10 (q := 13) rfl (S_pass1 tx n P 59 I R hFR hT (by decide)) imX9_pass ln_X9_32 (by assumption) (by decide) rfl rfl rfl rfl (Nat.le_of_ble_eq_true rfl) (by decide) (by decide) rfl rfl (fun rv gv Iv Rv hv => ?_)
    obtain ⟨P1, hP1, rfl, rfl, rfl, hT1, hO1, hK1⟩ := hv
    have hp0 : 0 < P.1 := by
      refine Nat.pos_of_ne_zero (fun z => c1 ?_)
      rw [z]; decide
    exact body P1 _ hT1 (fun k q1 q2 => by rw [hK1 k (by omega) (by omega)]; exact hF k q1 q2) hO1 (by rw [stmS, if_pos hp0, hP1])

def P0 : PS := (0, false)
def cntR (tx : Nat → Int32) (n : Nat) (F : Nat → Int32) : PS × Nat × (Nat → Int32) := cntF tx n 80 0 P0 F
theorem TW.rew {I : MI} {tx : Nat → Int32} {n : Nat} (h : TW I tx n) : TX (up2 (up2 I 315 2 0) 315 3 0) tx n P0 := by
  obtain ⟨h1, h2, h4⟩ := h
  exact ⟨by simp [up2_app, h1], h2, Nat.zero_le _, fun i hi => by simp [up2_app, h4 i hi], by simp [up2_app]; rfl, by simp [up2_app, P0]⟩
set_option maxRecDepth 100000 in
set_option maxHeartbeats 1600000 in
theorem S_countStatements (tx : Nat → Int32) (n : Nat) (F : Nat → Int32) (I : MI) (R : MR) (hFR : FR R) (hT : TW I tx n) (hF : TF I F) : Sp 6 0 0 mX9_countStatements [.ref 315] g0 I R (fun r g' I' R' => r = some (.int (cntV (cntR tx n F))) ∧ g0 = g' ∧ R = R' ∧ TX I' tx n (cntR tx n F).1 ∧ TF I' (cntR tx n F).2.2 ∧ ∀ a, a ≠ 315 → I' a = I a) := by
  have hk := ka315
  have hk6 := ka316
  have hr := hFR.2.2.2.1.2
  refine Sp.on (by decide +kernel) rfl rfl (fun J hM => ?_)
  have hJ := hM.ok
  have hT0 := hT.rew
  have hO0 : ∀ a, a ≠ 315 → up2 (up2 I 315 2 0) 315 3 0 a = I a := fun a ha => by rw [t_o a ha, t_o a ha]
  have hF0 : TF (up2 (up2 I 315 2 0) 315 3 0) F := fun k q1 q2 => by rw [up2_app, if_neg (fun z => by omega), up2_app, if_neg (fun z => by omega)]; exact hF k q1 q2
  have last : ∀ (P' : PS) (c : Nat) (F' : Nat → Int32) (I' : MI), cntF tx n 80 0 P0 F = (P', c, F') → c ≤ 80 → TX I' tx n P' → TF I' F' → (∀ a, a ≠ 315 → I' a = I a) → J 0 0 37 [some (.ref 315), some (.int (nI c))] [] g0 I' R := by
    intro P' c F' I' hfin hc80 hT' hF' hO'
    obtain ⟨g1, g2, g3, g4, g5, g6⟩ := id hT'
    refine q_aload_n hJ dX9_countStatements_37 (q := 38) rfl rfl rfl ?_
    refine q_getI hJ dX9_countStatements_38 (q := 41) rfl fl_X9_22 rfl (by assumption) g6 ?_
    refine q_if_eq hJ (tgt := 55) dX9_countStatements_41 (q := 44) rfl (by decide) (fun c1 => ?_) (fun c1 => ?_)
    · refine q_iload_n hJ dX9_countStatements_55 (q := 56) rfl rfl ?_
      refine q_iret hM dX9_countStatements_56 rfl rfl ?_
      rw [cntR, hfin]
      first
        | (have hb : ¬ P'.2 = true := fun z => by rw [if_pos z] at c1; exact absurd c1 (by decide)
           exact ⟨by rw [cntV, if_neg hb], rfl, rfl, hT', hF', hO'⟩)
        | (have hb : P'.2 = true := Decidable.byContradiction fun z => by rw [if_neg z] at c1; exact absurd rfl c1
           exact ⟨by rw [cntV, if_pos hb], rfl, rfl, hT', hF', hO'⟩)
    · refine q_sipush hJ (v := (-2000)) dX9_countStatements_44 (q := 47) rfl (by decide) ?_
      refine q_aload_n hJ dX9_countStatements_47 (q := 48) rfl rfl rfl ?_
      refine q_getI hJ dX9_countStatements_48 (q := 51) rfl fl_X9_19 rfl (by assumption) g5 ?_
      refine q_isub hJ dX9_countStatements_51 (q := 52) rfl ?_
      refine q_goto hJ (tgt := 56) dX9_countStatements_52 (by decide) ?_
      refine q_iret hM dX9_countStatements_56 rfl rfl ?_
      rw [cntR, hfin]
      first
        | (have hb : ¬ P'.2 = true := fun z => by rw [if_pos z] at c1; exact absurd c1 (by decide)
           exact ⟨by rw [cntV, if_neg hb], rfl, rfl, hT', hF', hO'⟩)
        | (have hb : P'.2 = true := Decidable.byContradiction fun z => by rw [if_neg z] at c1; exact absurd rfl c1
           exact ⟨by rw [cntV, if_pos hb], rfl, rfl, hT', hF', hO'⟩)
  have loop : ∀ (k c : Nat) (P' : PS) (F' : Nat → Int32) (I' : MI), c + k = 80 → TX I' tx n P' → TF I' F' → (∀ a, a ≠ 315 → I' a = I a) → cntF tx n 80 0 P0 F = cntF tx n k c P' F' → 1 ≤ k → J 0 0 6 [some (.ref 315), some (.int (nI c))] [] g0 I' R := by
    intro k
    induction k with
    | zero =>
      intro c P' F' I' hj hT' hF' hO' hf h1k
      omega
    | succ k ih =>
      intro c P' F' I' hj hT' hF' hO' hf h1k
      refine q_aload_n hJ dX9_countStatements_6 (q := 7) rfl rfl rfl ?_
      refine q_callV hJ dX9_countStatements_7 (q := 10) rfl (S_readStatement tx n P' F' I' R hFR hT' hF') imX9_readStatement ln_X9_29 (by assumption) (by decide) rfl rfl rfl rfl (Nat.le_of_ble_eq_true rfl) (by decide) (by decide) rfl rfl (fun rv gv Iv Rv hv => ?_)
      obtain ⟨rfl, rfl, rfl, hT2, hF2, hO2⟩ := hv
      generalize hG : stmS tx n P' F' = G at hT2 hF2
      obtain ⟨g1, g2, g3, g4, g5, g6⟩ := id hT2
      refine q_iinc hJ dX9_countStatements_10 (q := 13) rfl (by decide) rfl (nI_1 c) ?_
      refine q_aload_n hJ dX9_countStatements_13 (q := 14) rfl rfl rfl ?_
      refine q_getI hJ dX9_countStatements_14 (q := 17) rfl fl_X9_22 rfl (by assumption) g6 ?_
      refine q_if_ne hJ (tgt := 37) dX9_countStatements_17 (q := 20) rfl (by decide) (fun c1 => ?_) (fun c1 => ?_)
      · have hfin : cntF tx n 80 0 P0 F = (G.1, c + 1, G.2) := by
          rw [hf, cntF, hG, if_pos]
          first | exact Or.inl (Decidable.byContradiction fun z => by rw [if_neg z] at c1; exact absurd rfl c1) | exact Or.inr (Or.inl ((nI_leI (by omega) (by omega)).mp c2)) | exact Or.inr (Or.inr (Decidable.byContradiction fun z => c3 (by rw [nI_80]; exact (nI_ltI (by omega) (by decide)).mpr (by omega))))
        exact last _ _ _ _ hfin (by omega) hT2 hF2 (fun a ha => (hO2 a ha).trans (hO' a ha))
      · refine q_aload_n hJ dX9_countStatements_20 (q := 21) rfl rfl rfl ?_
        refine q_getI hJ dX9_countStatements_21 (q := 24) rfl fl_X9_19 rfl (by assumption) g5 ?_
        refine q_aload_n hJ dX9_countStatements_24 (q := 25) rfl rfl rfl ?_
        refine q_getI hJ dX9_countStatements_25 (q := 28) rfl fl_X9_15 rfl (by assumption) g1 ?_
        refine q_icmp_ge hJ (tgt := 37) dX9_countStatements_28 (q := 31) rfl (by decide) (fun c2 => ?_) (fun c2 => ?_)
        · have hfin : cntF tx n 80 0 P0 F = (G.1, c + 1, G.2) := by
            rw [hf, cntF, hG, if_pos]
            first | exact Or.inl (Decidable.byContradiction fun z => by rw [if_neg z] at c1; exact absurd rfl c1) | exact Or.inr (Or.inl ((nI_leI (by omega) (by omega)).mp c2)) | exact Or.inr (Or.inr (Decidable.byContradiction fun z => c3 (by rw [nI_80]; exact (nI_ltI (by omega) (by decide)).mpr (by omega))))
          exact last _ _ _ _ hfin (by omega) hT2 hF2 (fun a ha => (hO2 a ha).trans (hO' a ha))
        · refine q_iload_n hJ dX9_countStatements_31 (q := 32) rfl rfl ?_
          refine q_bipush hJ (v := 80) dX9_countStatements_32 (q := 34) rfl (by decide) ?_
          refine q_icmp_lt hJ (tgt := 6) dX9_countStatements_34 (q := 37) rfl (by decide) (fun c3 => ?_) (fun c3 => ?_)
          · have hb1 : ¬ G.1.2 = true := fun z => by rw [if_pos z] at c1; exact absurd c1 (by decide)
            have hb2 : ¬ n ≤ G.1.1 := fun z => c2 ((nI_leI (by omega) (by omega)).mpr z)
            have hb3 : ¬ k = 0 := fun z => by
              rw [nI_80] at c3
              have := (nI_ltI (by omega) (by decide)).mp c3
              omega
            exact ih (c + 1) _ _ _ (by omega) hT2 hF2 (fun a ha => (hO2 a ha).trans (hO' a ha)) (by rw [hf, cntF, hG, if_neg (by rintro (z | z | z); exact hb1 z; exact hb2 z; exact hb3 z)]) (by omega)
          · have hfin : cntF tx n 80 0 P0 F = (G.1, c + 1, G.2) := by
              rw [hf, cntF, hG, if_pos]
              first | exact Or.inl (Decidable.byContradiction fun z => by rw [if_neg z] at c1; exact absurd rfl c1) | exact Or.inr (Or.inl ((nI_leI (by omega) (by omega)).mp c2)) | exact Or.inr (Or.inr (Decidable.byContradiction fun z => c3 (by rw [nI_80]; exact (nI_ltI (by omega) (by decide)).mpr (by omega))))
            exact last _ _ _ _ hfin (by omega) hT2 hF2 (fun a ha => (hO2 a ha).trans (hO' a ha))
  refine q_aload_n hJ dX9_countStatements_0 (q := 1) rfl rfl rfl ?_
  refine q_callV hJ dX9_countStatements_1 (q := 4) rfl (S_rewind I R) imX9_rewind ln_X9_26 (by assumption) (by decide) rfl rfl rfl rfl (Nat.le_of_ble_eq_true rfl) (by decide) (by decide) rfl rfl (fun rv gv Iv Rv hv => ?_)
  obtain ⟨rfl, rfl, rfl, rfl⟩ := hv
  refine q_iconst hJ (v := 0) dX9_countStatements_4 (q := 5) rfl (by decide) ?_
  refine q_istore_n hJ dX9_countStatements_5 (q := 6) rfl (by decide) ?_
  exact loop 80 0 P0 F _ (by omega) hT0 hF0 hO0 rfl (by omega)

