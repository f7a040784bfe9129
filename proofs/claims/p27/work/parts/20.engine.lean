/-! THE ENGINE: preparing a caused operation, carrying one out -/
theorem cantA_01 (A : AS) (k : Int32) : cantA A k = 0 ∨ cantA A k = 1 := by
  unfold cantA
  split
  · exact Or.inl rfl
  · split
    · exact Or.inl rfl
    · split
      · exact Or.inr rfl
      · exact Or.inl rfl
theorem cp0_img {I : MI} {y x : Nat} {img : Nat → Int32} (h : ∀ f, f < 4 → I y f = img f) : ∀ f, f < 4 → cp0 I y x 4 x f = img f := fun f hf => by rw [cp0_in hf]; exact h f hf
set_option maxRecDepth 100000 in
set_option maxHeartbeats 400000 in
theorem S_prepC (A : AS) (q y x : Nat) (u img : Nat → Int32) (I : MI) (R : MR) (hFR : FR R) (hT : TabC I R 2 (aK A) (aN A)) (hkq : KA g0 q 5 0) (hky : KA g0 y 4 0) (hkx : KA g0 x 4 0) (hx : 45 ≤ x) (hu : ∀ f, f < 12 → I q f = u f) (hi : ∀ f, f < 4 → I y f = img f) : Sp 2 0 0 mX0_prepareCaused [.ref 1, .ref q, .ref y, .ref x] g0 I R (PrPo I R x (prepA A u img)) := by
  obtain ⟨P, hS, hK⟩ := id hT
  have hP := hS.2.2
  have hn := hS.2.1
  have hk1 := ka1
  have hk2 := ka_sta isB2
  have hk3 := ka_tbl isB2
  have he0 := hFR.2.2.1.1
  have he1 : R 2 0 = some 3 := (hFR.1 2 isB2).1
  refine Sp.on (by decide +kernel) rfl rfl (fun J hM => ?_)
  have hJ := hM.ok
  refine q_aload_n hJ dX0_prepareCaused_0 (q := 1) rfl rfl (by first | rfl | exact isR_rr _) ?_
  refine q_aload_n hJ dX0_prepareCaused_1 (q := 2) rfl rfl (by first | rfl | exact isR_rr _) ?_
  refine q_callV hJ dX0_prepareCaused_2 (q := 5) rfl (S_valueFor q y I R hkq hky) imX5_valueFor ln_X0_141 hkq (by decide) rfl rfl rfl rfl (Nat.le_of_ble_eq_true rfl) (by decide) (by decide) rfl rfl (fun rv gv Iv Rv hv => ?_)
  obtain ⟨rfl, rfl, rfl, rfl⟩ := hv
  rw [hu 5 (by decide), hu 6 (by decide), rowF_congr hi]
  change J _ _ _ _ (.int (valF u img) :: []) _ _ _
  refine q_istore hJ dX0_prepareCaused_5 (q := 7) rfl (by decide) ?_
  refine q_aload_n hJ dX0_prepareCaused_7 (q := 8) rfl rfl (by first | rfl | exact isR_rr _) ?_
  refine q_getI hJ dX0_prepareCaused_8 (q := 11) rfl fl_X0_147 rfl hkq (hu 3 (by decide)) ?_
  by_cases k_0 : u 3 = 3
  · refine q_lsw hJ (off := 25) (tgt := 36) dX0_prepareCaused_11 (by decide) (by rw [k_0]; decide) (by decide) ?_
    refine q_aload_n hJ dX0_prepareCaused_36 (q := 37) rfl rfl (by first | rfl | exact isR_rr _) ?_
    refine q_aload_n hJ dX0_prepareCaused_37 (q := 38) rfl rfl (by first | rfl | exact isR_rr _) ?_
    refine q_callV hJ dX0_prepareCaused_38 (q := 41) rfl (S_rowCp x y I R hkx hky) imX4_copyFrom ln_X0_133 hkx (by decide) rfl rfl rfl rfl (Nat.le_of_ble_eq_true rfl) (by decide) (by decide) rfl rfl (fun rv gv Iv Rv hv => ?_)
    obtain ⟨rfl, rfl, rfl, rfl⟩ := hv
    refine q_aload_n hJ dX0_prepareCaused_41 (q := 42) rfl rfl (by first | rfl | exact isR_rr _) ?_
    refine q_iload hJ dX0_prepareCaused_42 (q := 44) rfl rfl ?_
    refine q_putI hJ dX0_prepareCaused_44 (q := 47) rfl fl_X0_150 rfl rfl hkx rfl rfl ?_
    refine q_aload_n hJ dX0_prepareCaused_47 (q := 48) rfl rfl (by first | rfl | exact isR_rr _) ?_
    refine q_iload hJ dX0_prepareCaused_48 (q := 50) rfl rfl ?_
    refine q_callV hJ dX0_prepareCaused_50 (q := 53) rfl (S_canTake A (valF u img) _ R hFR (hT.agr (fun a q1 q2 => by rw [up2_other _ _ _ _ (by omega)]; funext t; exact cp0_other (by omega) t) (Agr.rf _ _ _))) imX0_canTake ln_X0_153 (by assumption) (by decide) rfl rfl rfl rfl (Nat.le_of_ble_eq_true rfl) (by decide) (by decide) rfl rfl (fun rv gv Iv Rv hv => ?_)
    obtain ⟨rfl, rfl, rfl, rfl⟩ := hv
    refine q_iret hM dX0_prepareCaused_53 rfl (nz rfl (cantA_01 _ _)) ?_
    refine ⟨rfl, rfl, fun a ha => ?_, ?_⟩
    · rw [up2_other _ _ _ _ ha]; funext t; exact cp0_other ha t
    · have ep : prepA A u img = if cantA A (valF u img) = 0 then none else some (fun j => if j = 0 then valF u img else img j) := by simp only [prepA, if_pos k_0]
      rcases cantA_01 A (valF u img) with h0 | h0
      · exact Or.inl ⟨by rw [ep, if_pos h0], by rw [h0]⟩
      · refine Or.inr ⟨_, by rw [ep, if_neg (by rw [h0]; decide)], by rw [h0], fun f hf => ?_⟩
        rw [up2_app]
        by_cases e : f = 0
        · rw [if_pos ⟨rfl, e⟩]; exact (if_pos e).symm
        · rw [if_neg (fun z => e z.2), cp0_img hi f hf]; exact (if_neg e).symm
  by_cases k_1 : u 3 = 4
  · refine q_lsw hJ (off := 43) (tgt := 54) dX0_prepareCaused_11 (by decide) (by rw [k_1]; decide) (by decide) ?_
    refine q_aload_n hJ dX0_prepareCaused_54 (q := 55) rfl rfl (by first | rfl | exact isR_rr _) ?_
    refine q_aload_n hJ dX0_prepareCaused_55 (q := 56) rfl rfl (by first | rfl | exact isR_rr _) ?_
    refine q_aload_n hJ dX0_prepareCaused_56 (q := 57) rfl rfl (by first | rfl | exact isR_rr _) ?_
    refine q_getI hJ dX0_prepareCaused_57 (q := 60) rfl fl_X0_150 rfl hky (hi 0 (by decide)) ?_
    refine q_bipush hJ (v := 99) dX0_prepareCaused_60 (q := 62) rfl (by decide) ?_
    refine q_icmp_ne hJ (tgt := 69) dX0_prepareCaused_62 (q := 65) rfl (by decide) (fun c1 => ?_) (fun c1 => ?_)
    · refine q_aload_n hJ dX0_prepareCaused_69 (q := 70) rfl rfl (by first | rfl | exact isR_rr _) ?_
      refine q_getI hJ dX0_prepareCaused_70 (q := 73) rfl fl_X0_150 rfl hky (hi 0 (by decide)) ?_
      refine q_iconst hJ (v := 1) dX0_prepareCaused_73 (q := 74) rfl (by decide) ?_
      refine q_iadd hJ dX0_prepareCaused_74 (q := 75) rfl ?_
      refine q_aload_n hJ dX0_prepareCaused_75 (q := 76) rfl rfl (by first | rfl | exact isR_rr _) ?_
      refine q_getI hJ dX0_prepareCaused_76 (q := 79) rfl fl_X0_156 rfl hkq (hu 4 (by decide)) ?_
      refine q_iload hJ dX0_prepareCaused_79 (q := 81) rfl rfl ?_
      have ep : prepA A u img = prUp A (nxt (img 0)) (u 4) (valF u img) := by simp only [prepA, if_neg k_0, if_pos k_1]
      first | rw [show (img 0 + 1) = nxt (img 0) from (if_neg c1).symm] | rw [show (0 : Int32) = nxt (img 0) from (if_pos c1).symm]
      refine q_callV hJ dX0_prepareCaused_81 (q := 84) rfl (S_prepUpd A x (nxt (img 0)) (u 4) (valF u img) I R hFR hT hkx) imX0_prepareUpdate ln_X0_78 (by assumption) (by decide) rfl rfl rfl rfl (Nat.le_of_ble_eq_true rfl) (by decide) (by decide) rfl rfl (fun rv gv Iv Rv hv => ?_)
      obtain ⟨rfl, rfl, hO, hc⟩ := hv
      rcases hc with ⟨ho, rfl⟩ | ⟨img2, ho, rfl, hI⟩
      · refine q_iret hM dX0_prepareCaused_84 rfl (nz rfl (by decide)) ?_
        exact ⟨rfl, rfl, hO, Or.inl ⟨ep.trans ho, rfl⟩⟩
      · refine q_iret hM dX0_prepareCaused_84 rfl (nz rfl (by decide)) ?_
        exact ⟨rfl, rfl, hO, Or.inr ⟨img2, ep.trans ho, rfl, hI⟩⟩
    · refine q_iconst hJ (v := 0) dX0_prepareCaused_65 (q := 66) rfl (by decide) ?_
      refine q_goto hJ (tgt := 75) dX0_prepareCaused_66 (by decide) ?_
      refine q_aload_n hJ dX0_prepareCaused_75 (q := 76) rfl rfl (by first | rfl | exact isR_rr _) ?_
      refine q_getI hJ dX0_prepareCaused_76 (q := 79) rfl fl_X0_156 rfl hkq (hu 4 (by decide)) ?_
      refine q_iload hJ dX0_prepareCaused_79 (q := 81) rfl rfl ?_
      have ep : prepA A u img = prUp A (nxt (img 0)) (u 4) (valF u img) := by simp only [prepA, if_neg k_0, if_pos k_1]
      first | rw [show (img 0 + 1) = nxt (img 0) from (if_neg c1).symm] | rw [show (0 : Int32) = nxt (img 0) from (if_pos c1).symm]
      refine q_callV hJ dX0_prepareCaused_81 (q := 84) rfl (S_prepUpd A x (nxt (img 0)) (u 4) (valF u img) I R hFR hT hkx) imX0_prepareUpdate ln_X0_78 (by assumption) (by decide) rfl rfl rfl rfl (Nat.le_of_ble_eq_true rfl) (by decide) (by decide) rfl rfl (fun rv gv Iv Rv hv => ?_)
      obtain ⟨rfl, rfl, hO, hc⟩ := hv
      rcases hc with ⟨ho, rfl⟩ | ⟨img2, ho, rfl, hI⟩
      · refine q_iret hM dX0_prepareCaused_84 rfl (nz rfl (by decide)) ?_
        exact ⟨rfl, rfl, hO, Or.inl ⟨ep.trans ho, rfl⟩⟩
      · refine q_iret hM dX0_prepareCaused_84 rfl (nz rfl (by decide)) ?_
        exact ⟨rfl, rfl, hO, Or.inr ⟨img2, ep.trans ho, rfl, hI⟩⟩
  refine q_lsw hJ (off := 74) (tgt := 85) dX0_prepareCaused_11 (by decide) (lsw_out2 (k0 := 3) (by decide) k_0 (k1 := 4) (by decide) k_1) (by decide) ?_
  refine q_aload_n hJ dX0_prepareCaused_85 (q := 86) rfl rfl (by first | rfl | exact isR_rr _) ?_
  refine q_aload_n hJ dX0_prepareCaused_86 (q := 87) rfl rfl (by first | rfl | exact isR_rr _) ?_
  refine q_iload hJ dX0_prepareCaused_87 (q := 89) rfl rfl ?_
  have ep : prepA A u img = prDel A (valF u img) := by simp only [prepA, if_neg k_0, if_neg k_1]
  refine q_callV hJ dX0_prepareCaused_89 (q := 92) rfl (S_prepDel A x (valF u img) I R hFR hT hkx) imX0_prepareDelete ln_X0_85 (by assumption) (by decide) rfl rfl rfl rfl (Nat.le_of_ble_eq_true rfl) (by decide) (by decide) rfl rfl (fun rv gv Iv Rv hv => ?_)
  obtain ⟨rfl, rfl, hO, hc⟩ := hv
  rcases hc with ⟨ho, rfl⟩ | ⟨img2, ho, rfl, hI⟩
  · refine q_iret hM dX0_prepareCaused_92 rfl (nz rfl (by decide)) ?_
    exact ⟨rfl, rfl, hO, Or.inl ⟨ep.trans ho, rfl⟩⟩
  · refine q_iret hM dX0_prepareCaused_92 rfl (nz rfl (by decide)) ?_
    exact ⟨rfl, rfl, hO, Or.inr ⟨img2, ep.trans ho, rfl, hI⟩⟩

set_option maxRecDepth 100000 in
set_option maxHeartbeats 400000 in
theorem S_carryOut (A : AS) (ev : Int32) (x : Nat) (img : Nat → Int32) (I : MI) (R : MR) (hFR : FR R) (hT : TabC I R 2 (aK A) (aN A)) (hkx : KA g0 x 4 0) (hx : 45 ≤ x) (hi : ∀ f, f < 4 → I x f = img f) : Sp 2 0 0 mX0_carryOut [.ref 1, .int ev, .ref x] g0 I R (TPo 2 I R (aK (carA ev img A)) (aN (carA ev img A))) := by
  obtain ⟨P, hS, hK⟩ := id hT
  have hP := hS.2.2
  have hn := hS.2.1
  have hk1 := ka1
  have hk2 := ka_sta isB2
  have hk3 := ka_tbl isB2
  have he0 := hFR.2.2.1.1
  have he1 : R 2 0 = some 3 := (hFR.1 2 isB2).1
  refine Sp.on (by decide +kernel) rfl rfl (fun J hM => ?_)
  have hJ := hM.ok
  refine q_iload_n hJ dX0_carryOut_0 (q := 1) rfl rfl ?_
  by_cases k_0 : ev = 0
  · refine q_lsw hJ (off := 27) (tgt := 28) dX0_carryOut_1 (by decide) (by rw [k_0]; decide) (by decide) ?_
    by_cases hl : aN A < 20
    · have ep : carA ev img A = setK A (insK (aK A) (aN A) img) (aN A + 1) := by simp only [carA, if_pos k_0, if_pos hl]
      refine q_aload_n hJ dX0_carryOut_28 (q := 29) rfl rfl (by first | rfl | exact isR_rr _) ?_
      refine q_getR hJ dX0_carryOut_29 (q := 32) rfl fl_X0_12 rfl hk1 he0 rfl ?_
      refine q_getR hJ dX0_carryOut_32 (q := 35) rfl fl_X0_39 rfl hk2 he1 rfl ?_
      refine q_aload_n hJ dX0_carryOut_35 (q := 36) rfl rfl (by first | rfl | exact isR_rr _) ?_
      refine q_callV hJ dX0_carryOut_36 (q := 39) rfl (S_takeC 2 _ x _ img I R isB2 hFR hT hl hkx (Or.inr (by omega)) hi) imX8_take ln_X0_173 hk3 (by decide) rfl rfl rfl rfl (Nat.le_of_ble_eq_true rfl) (by decide) (by decide) rfl rfl (fun rv gv Iv Rv hv => ?_)
      obtain ⟨rfl, rfl, hX, hO, hRO, hF⟩ := hv
      refine q_goto hJ (tgt := 83) dX0_carryOut_39 (by decide) ?_
      refine q_vret hM dX0_carryOut_83 rfl ?_
      rw [ep]
      exact ⟨rfl, rfl, hX, hO, hRO, hF⟩
    · have ep : carA ev img A = A := by simp only [carA, if_pos k_0, if_neg hl]
      refine q_aload_n hJ dX0_carryOut_28 (q := 29) rfl rfl (by first | rfl | exact isR_rr _) ?_
      refine q_getR hJ dX0_carryOut_29 (q := 32) rfl fl_X0_12 rfl hk1 he0 rfl ?_
      refine q_getR hJ dX0_carryOut_32 (q := 35) rfl fl_X0_39 rfl hk2 he1 rfl ?_
      refine q_aload_n hJ dX0_carryOut_35 (q := 36) rfl rfl (by first | rfl | exact isR_rr _) ?_
      refine q_callV hJ dX0_carryOut_36 (q := 39) rfl (S_take20 2 _ x P I R isB2 hFR hS hl) imX8_take ln_X0_173 hk3 (by decide) rfl rfl rfl rfl (Nat.le_of_ble_eq_true rfl) (by decide) (by decide) rfl rfl (fun rv gv Iv Rv hv => ?_)
      obtain ⟨rfl, rfl, rfl, rfl⟩ := hv
      refine q_goto hJ (tgt := 83) dX0_carryOut_39 (by decide) ?_
      refine q_vret hM dX0_carryOut_83 rfl ?_
      rw [ep]
      exact ⟨rfl, rfl, hT, Out.rf _ _ _, Out.rf _ _ _, hFR⟩
  by_cases k_1 : ev = 1
  · refine q_lsw hJ (off := 41) (tgt := 42) dX0_carryOut_1 (by decide) (by rw [k_1]; decide) (by decide) ?_
    rcases hf : fndF (fun j => aK A j 0 = img 0) 0 (aN A) with _ | i
    · have ep : carA ev img A = A := by simp only [carA, if_neg k_0, if_pos k_1, fK, hf]
      refine q_aload_n hJ dX0_carryOut_42 (q := 43) rfl rfl (by first | rfl | exact isR_rr _) ?_
      refine q_getR hJ dX0_carryOut_43 (q := 46) rfl fl_X0_12 rfl hk1 he0 rfl ?_
      refine q_getR hJ dX0_carryOut_46 (q := 49) rfl fl_X0_39 rfl hk2 he1 rfl ?_
      refine q_aload_n hJ dX0_carryOut_49 (q := 50) rfl rfl (by first | rfl | exact isR_rr _) ?_
      refine q_getI hJ dX0_carryOut_50 (q := 53) rfl fl_X0_150 rfl hkx (hi 0 (by decide)) ?_
      refine q_callV hJ dX0_carryOut_53 (q := 56) rfl (S_rowOf 2 _ P (img 0) I R isB2 hFR hS) imX8_rowOf ln_X0_43 hk3 (by decide) rfl rfl rfl rfl (Nat.le_of_ble_eq_true rfl) (by decide) (by decide) rfl rfl (fun rv gv Iv Rv hv => ?_)
      obtain ⟨rfl, rfl, rfl, rfl⟩ := hv
      rw [tab_fnd hK (img 0), hf]
      refine q_astore_n hJ dX0_carryOut_56 (q := 57) rfl (by decide) (by first | rfl | exact isR_rr _) ?_
      refine q_aload_n hJ dX0_carryOut_57 (q := 58) rfl rfl (by first | rfl | exact isR_rr _) ?_
      refine q_nullY hJ (a := 0) (tgt := 83) dX0_carryOut_58 (by decide) ?_
      refine q_vret hM dX0_carryOut_83 rfl ?_
      rw [ep]
      exact ⟨rfl, rfl, hT, Out.rf _ _ _, Out.rf _ _ _, hFR⟩
    · have ep : carA ev img A = setK A (putK (aK A) i img) (aN A) := by simp only [carA, if_neg k_0, if_pos k_1, fK, hf]
      have hin : i < aN A := by have := (fndF_some hf).2.1; omega
      have hpi := hP i (by omega)
      have hki := ka_row isB2 hpi.2.1 hpi.2.2.1
      refine q_aload_n hJ dX0_carryOut_42 (q := 43) rfl rfl (by first | rfl | exact isR_rr _) ?_
      refine q_getR hJ dX0_carryOut_43 (q := 46) rfl fl_X0_12 rfl hk1 he0 rfl ?_
      refine q_getR hJ dX0_carryOut_46 (q := 49) rfl fl_X0_39 rfl hk2 he1 rfl ?_
      refine q_aload_n hJ dX0_carryOut_49 (q := 50) rfl rfl (by first | rfl | exact isR_rr _) ?_
      refine q_getI hJ dX0_carryOut_50 (q := 53) rfl fl_X0_150 rfl hkx (hi 0 (by decide)) ?_
      refine q_callV hJ dX0_carryOut_53 (q := 56) rfl (S_rowOf 2 _ P (img 0) I R isB2 hFR hS) imX8_rowOf ln_X0_43 hk3 (by decide) rfl rfl rfl rfl (Nat.le_of_ble_eq_true rfl) (by decide) (by decide) rfl rfl (fun rv gv Iv Rv hv => ?_)
      obtain ⟨rfl, rfl, rfl, rfl⟩ := hv
      rw [tab_fnd hK (img 0), hf]
      refine q_astore_n hJ dX0_carryOut_56 (q := 57) rfl (by decide) (by first | rfl | exact isR_rr _) ?_
      refine q_aload_n hJ dX0_carryOut_57 (q := 58) rfl rfl (by first | rfl | exact isR_rr _) ?_
      refine q_nullN hJ dX0_carryOut_58 (q := 61) rfl ?_
      refine q_aload_n hJ dX0_carryOut_61 (q := 62) rfl rfl (by first | rfl | exact isR_rr _) ?_
      refine q_aload_n hJ dX0_carryOut_62 (q := 63) rfl rfl (by first | rfl | exact isR_rr _) ?_
      refine q_callV hJ dX0_carryOut_63 (q := 66) rfl (S_rowCp (P i) x I R hki hkx) imX4_copyFrom ln_X0_133 hki (by decide) rfl rfl rfl rfl (Nat.le_of_ble_eq_true rfl) (by decide) (by decide) rfl rfl (fun rv gv Iv Rv hv => ?_)
      obtain ⟨rfl, rfl, rfl, rfl⟩ := hv
      refine q_goto hJ (tgt := 83) dX0_carryOut_66 (by decide) ?_
      refine q_vret hM dX0_carryOut_83 rfl ?_
      rw [ep]
      exact ⟨rfl, rfl, TabQ_put hS hK hin hi, fun a ha => by funext t; exact cp0_other (by omega) t, Out.rf _ _ _, hFR⟩
  refine q_lsw hJ (off := 68) (tgt := 69) dX0_carryOut_1 (by decide) (lsw_out2 (k0 := 0) (by decide) k_0 (k1 := 1) (by decide) k_1) (by decide) ?_
  rcases hf : fndF (fun j => aK A j 0 = img 0) 0 (aN A) with _ | i
  · have ep : carA ev img A = A := by simp only [carA, if_neg k_0, if_neg k_1, fK, hf]
    refine q_aload_n hJ dX0_carryOut_69 (q := 70) rfl rfl (by first | rfl | exact isR_rr _) ?_
    refine q_getR hJ dX0_carryOut_70 (q := 73) rfl fl_X0_12 rfl hk1 he0 rfl ?_
    refine q_getR hJ dX0_carryOut_73 (q := 76) rfl fl_X0_39 rfl hk2 he1 rfl ?_
    refine q_aload_n hJ dX0_carryOut_76 (q := 77) rfl rfl (by first | rfl | exact isR_rr _) ?_
    refine q_getI hJ dX0_carryOut_77 (q := 80) rfl fl_X0_150 rfl hkx (hi 0 (by decide)) ?_
    refine q_callV hJ dX0_carryOut_80 (q := 83) rfl (S_dropN 2 _ P (img 0) I R isB2 hFR hS (fun j hj => by rw [hK j hj 0 (by decide)]; exact fndF_none hf j (by omega) (by omega))) imX8_drop ln_X0_176 hk3 (by decide) rfl rfl rfl rfl (Nat.le_of_ble_eq_true rfl) (by decide) (by decide) rfl rfl (fun rv gv Iv Rv hv => ?_)
    obtain ⟨rfl, rfl, rfl, rfl⟩ := hv
    refine q_vret hM dX0_carryOut_83 rfl ?_
    rw [ep]
    exact ⟨rfl, rfl, hT, Out.rf _ _ _, Out.rf _ _ _, hFR⟩
  · have ep : carA ev img A = setK A (delK (aK A) i) (aN A - 1) := by simp only [carA, if_neg k_0, if_neg k_1, fK, hf]
    refine q_aload_n hJ dX0_carryOut_69 (q := 70) rfl rfl (by first | rfl | exact isR_rr _) ?_
    refine q_getR hJ dX0_carryOut_70 (q := 73) rfl fl_X0_12 rfl hk1 he0 rfl ?_
    refine q_getR hJ dX0_carryOut_73 (q := 76) rfl fl_X0_39 rfl hk2 he1 rfl ?_
    refine q_aload_n hJ dX0_carryOut_76 (q := 77) rfl rfl (by first | rfl | exact isR_rr _) ?_
    refine q_getI hJ dX0_carryOut_77 (q := 80) rfl fl_X0_150 rfl hkx (hi 0 (by decide)) ?_
    refine q_callV hJ dX0_carryOut_80 (q := 83) rfl (S_dropC 2 _ i _ (img 0) I R isB2 hFR hT hf) imX8_drop ln_X0_176 hk3 (by decide) rfl rfl rfl rfl (Nat.le_of_ble_eq_true rfl) (by decide) (by decide) rfl rfl (fun rv gv Iv Rv hv => ?_)
    obtain ⟨rfl, rfl, hX, hO, hRO, hF⟩ := hv
    refine q_vret hM dX0_carryOut_83 rfl ?_
    rw [ep]
    exact ⟨rfl, rfl, hX, hO, hRO, hF⟩

