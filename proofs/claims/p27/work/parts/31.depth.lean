/-! depthFor; the text carried out -/
def dpA (A : AS) (j : Nat) : AS := setS A (fun i => if i = 0 then nI j else aS A i)
def dpF (A : AS) (k f v : Int32) : Nat → Nat → Int32
  | 0, _ => -1006
  | n + 1, j => if runR (XR 1 (updI A k f v) (dpA A j)) = -1005 then dpF A k f v n (j + 1) else nI j
def dpV (A : AS) (k f v : Int32) : Int32 := if updF A k f v = 0 then dpF A k f v 8 1 else updF A k f v
theorem CYB.dep {I : MI} {R : MR} {A : AS} {hs : Nat → AS} {h : Nat} {sn : AS} {kp : Bool} {tx : Nat → Int32} {tn : Nat} {B : AS} (H : CYB I R A hs h sn kp tx tn B) (j : Nat) : CYB (up2 I 2 3 (nI j)) R (dpA A j) hs h sn kp tx tn B := H.setg 0 (nI j)
theorem StPo.cyb {I I' : MI} {R R' : MR} {A : AS} {hs : Nat → AS} {h : Nat} {sn : AS} {kp : Bool} {tx : Nat → Int32} {tn : Nat} {B : AS} {r : Option Value} {g' : Geo} {ft ev : Int32} {img : Nat → Int32} (H : CYB I R A hs h sn kp tx tn B) (hv : StPo I R ft ev img A r g' I' R') : r = some (.int (stR ft ev img A)) ∧ g0 = g' ∧ CYB I' R' (if ft = 0 then runA (XR ev img A) else A) hs h sn kp tx tn B ∧ ∀ a, 315 ≤ a → I' a = I a := by
  rcases hv with ⟨hft, rfl, rfl, rfl, rfl⟩ | ⟨hft, rfl, rfl, hA2, hEn, hF, hR2, hFR2, hZ2⟩
  · exact ⟨by rw [stR, if_neg hft], rfl, by rw [if_neg hft]; exact H, fun a ha => rfl⟩
  · exact ⟨by rw [stR, if_pos hft], rfl, by rw [if_pos hft]; exact H.put2 hA2 (run_ok H.2.2.2.2.2.2.2.2.2.1) hF hR2 hFR2 hZ2, fun a ha => hF a (Or.inr ⟨by omega, Or.inr (by omega)⟩)⟩
set_option maxRecDepth 100000 in
set_option maxHeartbeats 400000 in
theorem S_depthFor (k f v : Int32) (A : AS) (hs : Nat → AS) (h : Nat) (sn : AS) (kp : Bool) (tx : Nat → Int32) (tn : Nat) (B : AS) (I : MI) (R : MR) (H : CYB I R A hs h sn kp tx tn B) : Sp 37 0 0 mX10_depthFor [.ref 0, .int k, .int f, .int v] g0 I R (CyP (dpV A k f v) I (fun I' R' => ∃ B', CYB I' R' A hs h sn kp tx tn B')) := by
  have hFR := H.1
  have hk1 := ka1
  have hk2 := ka_sta isB2
  have hkt := ka_tbl isB2
  have hkr := ka_rls isB2
  have hkg := ka_log isB2
  have hk145 := ka145
  have hk315 := ka315
  have hx0 := hFR.2.1.1
  have hx1 := hFR.2.1.2.1
  have hx2 := hFR.2.1.2.2.1
  have hx4 := hFR.2.1.2.2.2.1
  have hx5 := hFR.2.1.2.2.2.2
  have he0 := hFR.2.2.1.1
  have hs0 : R 2 0 = some (2 + 1) := (hFR.1 2 isB2).1
  have hs1 : R 2 1 = some (2 + 23) := (hFR.1 2 isB2).2.1
  have hs2 : R 2 2 = some (2 + 38) := (hFR.1 2 isB2).2.2.1
  refine Sp.on (by decide +kernel) rfl rfl (fun J hM => ?_)
  have hJ := hM.ok
  have loop : updF A k f v = 0 → ∀ (n j : Nat) (I' : MI) (R' : MR), CYB I' R' A hs h sn kp tx tn A → (∀ a, 317 ≤ a → I' a = I a) → ∀ x : Option Value, n + j = 9 → dpV A k f v = dpF A k f v n j → J 0 0 37 [some (.ref 0), some (.int k), some (.int f), some (.int v), some (.int (updF A k f v)), some (.int (nI j)), x] [] g0 I' R' := by
    intro c1 n
    induction n with
    | zero =>
      intro j I' R' HB hMB x hn hj
      refine q_iload hJ dX10_depthFor_37 (q := 39) rfl rfl ?_
      refine q_bipush hJ (v := 8) dX10_depthFor_39 (q := 41) rfl (by decide) ?_
      refine q_icmp_gt hJ (tgt := 99) dX10_depthFor_41 (q := 44) rfl (by decide) (fun _ => ?_) (fun c5 => absurd ((nI_ltI (a := 8) (b := j) (by decide) (by omega)).mpr (by omega)) c5)
      refine q_sipush hJ (v := (-1006)) dX10_depthFor_99 (q := 102) rfl (by decide) ?_
      refine q_iret hM dX10_depthFor_102 rfl rfl ?_
      exact ⟨by rw [hj]; rfl, rfl, ⟨A, HB⟩, hMB⟩
    | succ n ih =>
      intro j I' R' HB hMB x hn hj
      have hFR3 := HB.1
      have hx0 := hFR3.2.1.1
      have hx1 := hFR3.2.1.2.1
      have he0 := hFR3.2.2.1.1
      refine q_iload hJ dX10_depthFor_37 (q := 39) rfl rfl ?_
      refine q_bipush hJ (v := 8) dX10_depthFor_39 (q := 41) rfl (by decide) ?_
      refine q_icmp_gt hJ (tgt := 99) dX10_depthFor_41 (q := 44) rfl (by decide) (fun c5 => absurd ((nI_ltI (a := 8) (b := j) (by decide) (by omega)).mp c5) (by omega)) (fun _ => ?_)
      refine q_aload_n hJ dX10_depthFor_44 (q := 45) rfl rfl (by first | rfl | exact isR_rr _) ?_
      refine q_getR hJ dX10_depthFor_45 (q := 48) rfl fl_X10_10 rfl (by first | assumption | exact ka_x) (by assumption) rfl ?_
      refine q_getR hJ dX10_depthFor_48 (q := 51) rfl fl_X10_58 rfl (by first | assumption | exact ka_x) (by assumption) rfl ?_
      refine q_iload hJ dX10_depthFor_51 (q := 53) rfl rfl ?_
      refine q_putI hJ dX10_depthFor_53 (q := 56) rfl fl_X10_108 rfl rfl hk2 rfl rfl ?_
      refine q_aload_n hJ dX10_depthFor_56 (q := 57) rfl rfl (by first | rfl | exact isR_rr _) ?_
      refine q_getR hJ dX10_depthFor_57 (q := 60) rfl fl_X10_10 rfl (by first | assumption | exact ka_x) (by assumption) rfl ?_
      refine q_iload_n hJ dX10_depthFor_60 (q := 61) rfl rfl ?_
      refine q_iload_n hJ dX10_depthFor_61 (q := 62) rfl rfl ?_
      refine q_iload_n hJ dX10_depthFor_62 (q := 63) rfl rfl ?_
      have HD := HB.dep j
      refine q_callV hJ dX10_depthFor_63 (q := 66) rfl (S_runUpdate k f v (dpA A j) _ _ hFR3 HD.2.2.2.1 HD.2.1 HD.2.2.1) imX0_runUpdate ln_X10_125 hk1 (by decide) rfl rfl rfl rfl (Nat.le_of_ble_eq_true rfl) (by decide) (by decide) rfl rfl (fun rv gv Iv Rv hv => ?_)
      obtain ⟨rfl, rfl, hC, hMo⟩ := StPo.cyb HD hv
      have hFR4 := hC.1
      have hy0 := hFR4.2.1.1
      have hy1 := hFR4.2.1.2.1
      have hf0 := hFR4.2.2.1.1
      refine q_istore hJ dX10_depthFor_66 (q := 68) rfl (by decide) ?_
      refine q_aload_n hJ dX10_depthFor_68 (q := 69) rfl rfl (by first | rfl | exact isR_rr _) ?_
      refine q_getR hJ dX10_depthFor_69 (q := 72) rfl fl_X10_10 rfl (by first | assumption | exact ka_x) (by assumption) rfl ?_
      refine q_getR hJ dX10_depthFor_72 (q := 75) rfl fl_X10_58 rfl (by first | assumption | exact ka_x) (by assumption) rfl ?_
      refine q_aload_n hJ dX10_depthFor_75 (q := 76) rfl rfl (by first | rfl | exact isR_rr _) ?_
      refine q_getR hJ dX10_depthFor_76 (q := 79) rfl fl_X10_19 rfl (by first | assumption | exact ka_x) (by assumption) rfl ?_
      refine q_callV hJ dX10_depthFor_79 (q := 82) rfl (S_stateCopy 2 61 _ A _ _ isB2 isB61 (by decide) hFR4 hC.2.2.2.1 hC.2.2.2.2.1 hC.2.2.2.2.2.2.2.2.2.2.1) imX7_copyFrom ln_X10_114 hk2 (by decide) rfl rfl rfl rfl (Nat.le_of_ble_eq_true rfl) (by decide) (by decide) rfl rfl (fun rv gv Iv Rv hv => ?_)
      obtain ⟨rfl, rfl, rfl, hX3, hO3⟩ := hv
      have H3 := hC.st2 hX3 hC.2.2.2.2.2.2.2.2.2.2.1 hO3
      have hM3 : ∀ a, 317 ≤ a → Iv a = I a := fun a ha => by rw [hO3 a (by omega), hMo a (by omega), up2_other _ _ _ _ (by omega)]; exact hMB a ha
      have er : stR (updF (dpA A j) k f v) 1 (updI (dpA A j) k f v) (dpA A j) = runR (XR 1 (updI A k f v) (dpA A j)) := if_pos c1
      refine q_iload hJ dX10_depthFor_82 (q := 84) rfl rfl ?_
      refine q_sipush hJ (v := (-1005)) dX10_depthFor_84 (q := 87) rfl (by decide) ?_
      refine q_icmp_eq hJ (tgt := 93) dX10_depthFor_87 (q := 90) rfl (by decide) (fun c6 => ?_) (fun c6 => ?_)
      · refine q_iinc hJ dX10_depthFor_93 (q := 96) rfl (by decide) rfl (nI_1 j) ?_
        refine q_goto hJ (tgt := 37) dX10_depthFor_96 (by decide) ?_
        refine ih (j + 1) _ _ H3 hM3 _ (by omega) ?_
        rw [hj, dpF, if_pos (er.symm.trans c6)]
      · refine q_iload hJ dX10_depthFor_90 (q := 92) rfl rfl ?_
        refine q_iret hM dX10_depthFor_92 rfl rfl ?_
        exact ⟨by rw [hj]; unfold dpF; rw [if_neg (fun z => c6 (er.trans z))], rfl, ⟨A, H3⟩, hM3⟩
  refine q_aload_n hJ dX10_depthFor_0 (q := 1) rfl rfl (by first | rfl | exact isR_rr _) ?_
  refine q_getR hJ dX10_depthFor_1 (q := 4) rfl fl_X10_10 rfl (by first | assumption | exact ka_x) (by assumption) rfl ?_
  refine q_iload_n hJ dX10_depthFor_4 (q := 5) rfl rfl ?_
  refine q_iload_n hJ dX10_depthFor_5 (q := 6) rfl rfl ?_
  refine q_iload_n hJ dX10_depthFor_6 (q := 7) rfl rfl ?_
  refine q_callV hJ dX10_depthFor_7 (q := 10) rfl (S_updFault A k f v I R hFR H.2.2.2.1.2.1) imX0_updateFault ln_X10_206 hk1 (by decide) rfl rfl rfl rfl (Nat.le_of_ble_eq_true rfl) (by decide) (by decide) rfl rfl (fun rv gv Iv Rv hv => ?_)
  obtain ⟨rfl, rfl, rfl, rfl⟩ := hv
  refine q_istore hJ dX10_depthFor_10 (q := 12) rfl (by decide) ?_
  refine q_iload hJ dX10_depthFor_12 (q := 14) rfl rfl ?_
  refine q_if_eq hJ (tgt := 20) dX10_depthFor_14 (q := 17) rfl (by decide) (fun c1 => ?_) (fun c1 => ?_)
  · refine q_aload_n hJ dX10_depthFor_20 (q := 21) rfl rfl (by first | rfl | exact isR_rr _) ?_
    refine q_getR hJ dX10_depthFor_21 (q := 24) rfl fl_X10_19 rfl (by first | assumption | exact ka_x) (by assumption) rfl ?_
    refine q_aload_n hJ dX10_depthFor_24 (q := 25) rfl rfl (by first | rfl | exact isR_rr _) ?_
    refine q_getR hJ dX10_depthFor_25 (q := 28) rfl fl_X10_10 rfl (by first | assumption | exact ka_x) (by assumption) rfl ?_
    refine q_getR hJ dX10_depthFor_28 (q := 31) rfl fl_X10_58 rfl (by first | assumption | exact ka_x) (by assumption) rfl ?_
    refine q_callV hJ dX10_depthFor_31 (q := 34) rfl (S_stateCopy 61 2 B A I R isB61 isB2 (by decide) hFR H.2.2.2.2.1 H.2.2.2.1 H.2.2.2.2.2.2.2.2.2.1) imX7_copyFrom ln_X10_114 (ka_sta isB61) (by decide) rfl rfl rfl rfl (Nat.le_of_ble_eq_true rfl) (by decide) (by decide) rfl rfl (fun rv gv Iv Rv hv => ?_)
    obtain ⟨rfl, rfl, rfl, hX, hO⟩ := hv
    have H1 : CYB Iv R A hs h sn kp tx tn A := H.put61 hX H.2.2.2.2.2.2.2.2.2.1 hO
    have hM1 : ∀ a, 317 ≤ a → Iv a = I a := fun a ha => hO a (by omega)
    refine q_iconst hJ (v := 1) dX10_depthFor_34 (q := 35) rfl (by decide) ?_
    refine q_istore hJ dX10_depthFor_35 (q := 37) rfl (by decide) ?_
    exact loop c1 8 1 _ _ H1 hM1 none rfl (by rw [dpV, if_pos c1])
  · refine q_iload hJ dX10_depthFor_17 (q := 19) rfl rfl ?_
    refine q_iret hM dX10_depthFor_19 rfl rfl ?_
    exact ⟨by rw [dpV, if_neg c1], rfl, ⟨B, H⟩, fun a ha => rfl⟩

def psF (A : AS) (F : Nat → Int32) : Int32 := if F 4 = 0 then insF A (F 5) (F 7) (F 8) (F 9) else if F 4 = 1 then updF A (F 5) (F 6) (F 7) else dltF A (F 5)
def psX (A : AS) (F : Nat → Int32) : XS := if F 4 = 0 then XR 0 (insI (F 5) (F 7) (F 8) (F 9)) A else if F 4 = 1 then XR 1 (updI A (F 5) (F 6) (F 7)) A else XR 2 (dltI A (F 5)) A
def psR (A : AS) (F : Nat → Int32) : Int32 := if psF A F = 0 then runR (psX A F) else psF A F
def psA (A : AS) (F : Nat → Int32) : AS := if psF A F = 0 then runA (psX A F) else A
def PsP (I : MI) (A : AS) (F : Nat → Int32) (hs : Nat → AS) (h : Nat) (sn : AS) (kp : Bool) (tx : Nat → Int32) (tn : Nat) (B : AS) : Po := fun r g' I' R' => r = some (.int (psR A F)) ∧ g0 = g' ∧ CYB I' R' (psA A F) hs h sn kp tx tn B ∧ ∀ a, 315 ≤ a → I' a = I a
def prfL (tx : Nat → Int32) (n : Nat) : Nat → PS → (Nat → Int32) → AS → Int32 × AS
  | 0, _, _, A => (0, A)
  | k + 1, P, F, A => if psR A (stmS tx n P F).2 < 0 ∧ ¬ psR A (stmS tx n P F).2 = -1006 then (psR A (stmS tx n P F).2, psA A (stmS tx n P F).2) else prfL tx n k (stmS tx n P F).1 (stmS tx n P F).2 (psA A (stmS tx n P F).2)
def prfX (A : AS) (tx : Nat → Int32) (tn : Nat) (F : Nat → Int32) : Int32 × AS := prfL tx tn (cntR tx tn F).2.1 P0 (cntR tx tn F).2.2 A
def prfV (A : AS) (tx : Nat → Int32) (tn : Nat) (F : Nat → Int32) : Int32 := if cntV (cntR tx tn F) < 0 then cntV (cntR tx tn F) else if (prfX A tx tn F).1 < 0 then (prfX A tx tn F).1 else cntV (cntR tx tn F)
def prfOk (A : AS) (tx : Nat → Int32) (tn : Nat) (F : Nat → Int32) : Prop := ¬ cntV (cntR tx tn F) < 0 ∧ ¬ (prfX A tx tn F).1 < 0
theorem TX.tw {I : MI} {tx : Nat → Int32} {n : Nat} {P : PS} (h : TX I tx n P) : TW I tx n := ⟨h.1, h.2.1, h.2.2.2.1⟩
theorem CYB.tx {I I' : MI} {R : MR} {A : AS} {hs : Nat → AS} {h : Nat} {sn : AS} {kp : Bool} {tx : Nat → Int32} {tn : Nat} {B : AS} (H : CYB I R A hs h sn kp tx tn B) {P : PS} (hT : TX I' tx tn P) (hO : ∀ a, a ≠ 315 → I' a = I a) : CYB I' R A hs h sn kp tx tn B := H.putT hT.tw (fun a ha => hO a (by omega))
set_option maxRecDepth 100000 in
set_option maxHeartbeats 400000 in
theorem S_performStatement (F : Nat → Int32) (A : AS) (hs : Nat → AS) (h : Nat) (sn : AS) (kp : Bool) (tx : Nat → Int32) (tn : Nat) (B : AS) (I : MI) (R : MR) (H : CYB I R A hs h sn kp tx tn B) (hF : TF I F) : Sp 37 0 0 mX10_performStatement [.ref 0] g0 I R (PsP I A F hs h sn kp tx tn B) := by
  have hFR := H.1
  have hk1 := ka1
  have hk2 := ka_sta isB2
  have hkt := ka_tbl isB2
  have hkr := ka_rls isB2
  have hkg := ka_log isB2
  have hk145 := ka145
  have hk315 := ka315
  have hx0 := hFR.2.1.1
  have hx1 := hFR.2.1.2.1
  have hx2 := hFR.2.1.2.2.1
  have hx4 := hFR.2.1.2.2.2.1
  have hx5 := hFR.2.1.2.2.2.2
  have he0 := hFR.2.2.1.1
  have hs0 : R 2 0 = some (2 + 1) := (hFR.1 2 isB2).1
  have hs1 : R 2 1 = some (2 + 23) := (hFR.1 2 isB2).2.1
  have hs2 : R 2 2 = some (2 + 38) := (hFR.1 2 isB2).2.2.1
  refine Sp.on (by decide +kernel) rfl rfl (fun J hM => ?_)
  have hJ := hM.ok
  refine q_aload_n hJ dX10_performStatement_0 (q := 1) rfl rfl (by first | rfl | exact isR_rr _) ?_
  refine q_getR hJ dX10_performStatement_1 (q := 4) rfl fl_X10_36 rfl (by first | assumption | exact ka_x) (by assumption) rfl ?_
  refine q_getI hJ dX10_performStatement_4 (q := 7) rfl fl_X10_212 rfl hk315 (hF 4 (by decide) (by decide)) ?_
  by_cases k_0 : F 4 = 0
  · refine q_lsw hJ (off := 25) (tgt := 32) dX10_performStatement_7 (by decide) (by rw [k_0]; decide) (by decide) ?_
    refine q_aload_n hJ dX10_performStatement_32 (q := 33) rfl rfl (by first | rfl | exact isR_rr _) ?_
    refine q_getR hJ dX10_performStatement_33 (q := 36) rfl fl_X10_10 rfl (by first | assumption | exact ka_x) (by assumption) rfl ?_
    refine q_aload_n hJ dX10_performStatement_36 (q := 37) rfl rfl (by first | rfl | exact isR_rr _) ?_
    refine q_getR hJ dX10_performStatement_37 (q := 40) rfl fl_X10_36 rfl (by first | assumption | exact ka_x) (by assumption) rfl ?_
    refine q_getI hJ dX10_performStatement_40 (q := 43) rfl fl_X10_215 rfl hk315 (hF 5 (by decide) (by decide)) ?_
    refine q_aload_n hJ dX10_performStatement_43 (q := 44) rfl rfl (by first | rfl | exact isR_rr _) ?_
    refine q_getR hJ dX10_performStatement_44 (q := 47) rfl fl_X10_36 rfl (by first | assumption | exact ka_x) (by assumption) rfl ?_
    refine q_getI hJ dX10_performStatement_47 (q := 50) rfl fl_X10_216 rfl hk315 (hF 7 (by decide) (by decide)) ?_
    refine q_aload_n hJ dX10_performStatement_50 (q := 51) rfl rfl (by first | rfl | exact isR_rr _) ?_
    refine q_getR hJ dX10_performStatement_51 (q := 54) rfl fl_X10_36 rfl (by first | assumption | exact ka_x) (by assumption) rfl ?_
    refine q_getI hJ dX10_performStatement_54 (q := 57) rfl fl_X10_219 rfl hk315 (hF 8 (by decide) (by decide)) ?_
    refine q_aload_n hJ dX10_performStatement_57 (q := 58) rfl rfl (by first | rfl | exact isR_rr _) ?_
    refine q_getR hJ dX10_performStatement_58 (q := 61) rfl fl_X10_36 rfl (by first | assumption | exact ka_x) (by assumption) rfl ?_
    refine q_getI hJ dX10_performStatement_61 (q := 64) rfl fl_X10_222 rfl hk315 (hF 9 (by decide) (by decide)) ?_
    refine q_callV hJ dX10_performStatement_64 (q := 67) rfl (S_runInsert (F 5) (F 7) (F 8) (F 9) A I R hFR H.2.2.2.1 H.2.1 H.2.2.1) imX0_runInsert ln_X10_117 hk1 (by decide) rfl rfl rfl rfl (Nat.le_of_ble_eq_true rfl) (by decide) (by decide) rfl rfl (fun rv gv Iv Rv hv => ?_)
    obtain ⟨rfl, rfl, hC, hMo⟩ := StPo.cyb H hv
    refine q_iret hM dX10_performStatement_67 rfl rfl ?_
    have e1 : psF A F = insF A (F 5) (F 7) (F 8) (F 9) := if_pos k_0
    have e2 : psX A F = XR 0 (insI (F 5) (F 7) (F 8) (F 9)) A := if_pos k_0
    exact ⟨by rw [psR, e1, e2]; rfl, rfl, by rw [psA, e1, e2]; exact hC, hMo⟩
  by_cases k_1 : F 4 = 1
  · refine q_lsw hJ (off := 61) (tgt := 68) dX10_performStatement_7 (by decide) (by rw [k_1]; decide) (by decide) ?_
    refine q_aload_n hJ dX10_performStatement_68 (q := 69) rfl rfl (by first | rfl | exact isR_rr _) ?_
    refine q_getR hJ dX10_performStatement_69 (q := 72) rfl fl_X10_10 rfl (by first | assumption | exact ka_x) (by assumption) rfl ?_
    refine q_aload_n hJ dX10_performStatement_72 (q := 73) rfl rfl (by first | rfl | exact isR_rr _) ?_
    refine q_getR hJ dX10_performStatement_73 (q := 76) rfl fl_X10_36 rfl (by first | assumption | exact ka_x) (by assumption) rfl ?_
    refine q_getI hJ dX10_performStatement_76 (q := 79) rfl fl_X10_215 rfl hk315 (hF 5 (by decide) (by decide)) ?_
    refine q_aload_n hJ dX10_performStatement_79 (q := 80) rfl rfl (by first | rfl | exact isR_rr _) ?_
    refine q_getR hJ dX10_performStatement_80 (q := 83) rfl fl_X10_36 rfl (by first | assumption | exact ka_x) (by assumption) rfl ?_
    refine q_getI hJ dX10_performStatement_83 (q := 86) rfl fl_X10_225 rfl hk315 (hF 6 (by decide) (by decide)) ?_
    refine q_aload_n hJ dX10_performStatement_86 (q := 87) rfl rfl (by first | rfl | exact isR_rr _) ?_
    refine q_getR hJ dX10_performStatement_87 (q := 90) rfl fl_X10_36 rfl (by first | assumption | exact ka_x) (by assumption) rfl ?_
    refine q_getI hJ dX10_performStatement_90 (q := 93) rfl fl_X10_216 rfl hk315 (hF 7 (by decide) (by decide)) ?_
    refine q_callV hJ dX10_performStatement_93 (q := 96) rfl (S_runUpdate (F 5) (F 6) (F 7) A I R hFR H.2.2.2.1 H.2.1 H.2.2.1) imX0_runUpdate ln_X10_125 hk1 (by decide) rfl rfl rfl rfl (Nat.le_of_ble_eq_true rfl) (by decide) (by decide) rfl rfl (fun rv gv Iv Rv hv => ?_)
    obtain ⟨rfl, rfl, hC, hMo⟩ := StPo.cyb H hv
    refine q_iret hM dX10_performStatement_96 rfl rfl ?_
    have e1 : psF A F = updF A (F 5) (F 6) (F 7) := (if_neg k_0).trans (if_pos k_1)
    have e2 : psX A F = XR 1 (updI A (F 5) (F 6) (F 7)) A := (if_neg k_0).trans (if_pos k_1)
    exact ⟨by rw [psR, e1, e2]; rfl, rfl, by rw [psA, e1, e2]; exact hC, hMo⟩
  refine q_lsw hJ (off := 90) (tgt := 97) dX10_performStatement_7 (by decide) (lsw_out2 (k0 := 0) (by decide) k_0 (k1 := 1) (by decide) k_1) (by decide) ?_
  refine q_aload_n hJ dX10_performStatement_97 (q := 98) rfl rfl (by first | rfl | exact isR_rr _) ?_
  refine q_getR hJ dX10_performStatement_98 (q := 101) rfl fl_X10_10 rfl (by first | assumption | exact ka_x) (by assumption) rfl ?_
  refine q_aload_n hJ dX10_performStatement_101 (q := 102) rfl rfl (by first | rfl | exact isR_rr _) ?_
  refine q_getR hJ dX10_performStatement_102 (q := 105) rfl fl_X10_36 rfl (by first | assumption | exact ka_x) (by assumption) rfl ?_
  refine q_getI hJ dX10_performStatement_105 (q := 108) rfl fl_X10_215 rfl hk315 (hF 5 (by decide) (by decide)) ?_
  refine q_callV hJ dX10_performStatement_108 (q := 111) rfl (S_runDelete (F 5) A I R hFR H.2.2.2.1 H.2.1 H.2.2.1) imX0_runDelete ln_X10_129 hk1 (by decide) rfl rfl rfl rfl (Nat.le_of_ble_eq_true rfl) (by decide) (by decide) rfl rfl (fun rv gv Iv Rv hv => ?_)
  obtain ⟨rfl, rfl, hC, hMo⟩ := StPo.cyb H hv
  refine q_iret hM dX10_performStatement_111 rfl rfl ?_
  have e1 : psF A F = dltF A (F 5) := (if_neg k_0).trans (if_neg k_1)
  have e2 : psX A F = XR 2 (dltI A (F 5)) A := (if_neg k_0).trans (if_neg k_1)
  exact ⟨by rw [psR, e1, e2]; rfl, rfl, by rw [psA, e1, e2]; exact hC, hMo⟩

theorem cntN (p : Nat) (h : p ≤ 80) : (-2000 : Int32) - nI p < 0 := by
  revert p
  have : ∀ p : Fin 81, (-2000 : Int32) - nI p.1 < 0 := by decide
  exact fun p hp => this ⟨p, by omega⟩
theorem TX.le {I : MI} {tx : Nat → Int32} {n : Nat} {P : PS} (h : TX I tx n P) : P.1 ≤ 80 := Nat.le_trans h.2.2.1 h.2.1
set_option maxRecDepth 100000 in
set_option maxHeartbeats 400000 in
theorem S_perform (F : Nat → Int32) (A : AS) (hs : Nat → AS) (h : Nat) (sn : AS) (kp : Bool) (tx : Nat → Int32) (tn : Nat) (B : AS) (I : MI) (R : MR) (H : CYB I R A hs h sn kp tx tn B) (hF : TF I F) : Sp 38 0 0 mX10_perform [.ref 0] g0 I R (CyP (prfV A tx tn F) I (fun I' R' => (prfOk A tx tn F ∧ CYB I' R' (prfX A tx tn F).2 (pushH hs h A) (pushN h) sn kp tx tn A) ∨ (¬ prfOk A tx tn F ∧ ∃ B', CYB I' R' A hs h sn kp tx tn B'))) := by
  have hFR := H.1
  have hk1 := ka1
  have hk2 := ka_sta isB2
  have hkt := ka_tbl isB2
  have hkr := ka_rls isB2
  have hkg := ka_log isB2
  have hk145 := ka145
  have hk315 := ka315
  have hx0 := hFR.2.1.1
  have hx1 := hFR.2.1.2.1
  have hx2 := hFR.2.1.2.2.1
  have hx4 := hFR.2.1.2.2.2.1
  have hx5 := hFR.2.1.2.2.2.2
  have he0 := hFR.2.2.1.1
  have hs0 : R 2 0 = some (2 + 1) := (hFR.1 2 isB2).1
  have hs1 : R 2 1 = some (2 + 23) := (hFR.1 2 isB2).2.1
  have hs2 : R 2 2 = some (2 + 38) := (hFR.1 2 isB2).2.2.1
  refine Sp.on (by decide +kernel) rfl rfl (fun J hM => ?_)
  have hJ := hM.ok
  have loop : ¬ cntV (cntR tx tn F) < 0 → ∀ c, cntV (cntR tx tn F) = nI c → c ≤ 80 → ∀ (n j : Nat) (P : PS) (F' : Nat → Int32) (A' : AS) (I' : MI) (R' : MR), CYB I' R' A' hs h sn kp tx tn A → TX I' tx tn P → TF I' F' → (∀ a, 317 ≤ a → I' a = I a) → ∀ x : Option Value, n + j = c → prfX A tx tn F = prfL tx tn n P F' A' → J 0 0 37 [some (.ref 0), some (.int (nI c)), some (.int (nI j)), x] [] g0 I' R' := by
    intro hcv c hc hc80 n
    induction n with
    | zero =>
      intro j P F' A' I' R' HB hT hF hMB x hn hj
      have hFR3 := HB.1
      have hx0 := hFR3.2.1.1
      have hx1 := hFR3.2.1.2.1
      have hx5 := hFR3.2.1.2.2.2.2
      have he0 := hFR3.2.2.1.1
      refine q_iload_n hJ dX10_perform_37 (q := 38) rfl rfl ?_
      refine q_iload_n hJ dX10_perform_38 (q := 39) rfl rfl ?_
      refine q_icmp_ge hJ (tgt := 77) dX10_perform_39 (q := 42) rfl (by decide) (fun _ => ?_) (fun c5 => absurd ((nI_leI (a := c) (b := j) (by omega) (by omega)).mpr (by omega)) c5)
      refine q_aload_n hJ dX10_perform_77 (q := 78) rfl rfl (by first | rfl | exact isR_rr _) ?_
      refine q_iload_n hJ dX10_perform_78 (q := 79) rfl rfl ?_
      refine q_callV hJ dX10_perform_79 (q := 82) rfl (S_settle _ hs h sn kp tx tn A _ _ _ HB) imX10_settle ln_X10_121 (by first | assumption | exact ka_x) (by decide) rfl rfl rfl rfl (Nat.le_of_ble_eq_true rfl) (by decide) (by decide) rfl rfl (fun rv gv Iv Rv hv => ?_)
      obtain ⟨rfl, rfl, hX, hM4⟩ := hv
      refine q_iret hM dX10_perform_82 rfl rfl ?_
      have ex : prfX A tx tn F = (0, A') := hj
      rw [if_neg (fun z => hcv (hc ▸ z))] at hX
      refine ⟨by rw [prfV, if_neg hcv, ex, if_neg (show ¬ (0 : Int32) < 0 by decide), hc], rfl, Or.inl ⟨⟨hcv, by rw [ex]; exact (show ¬ (0 : Int32) < 0 by decide)⟩, by rw [ex]; exact hX⟩, fun a ha => (hM4 a ha).trans (hMB a ha)⟩
    | succ n ih =>
      intro j P F' A' I' R' HB hT hF hMB x hn hj
      have hFR3 := HB.1
      have hx0 := hFR3.2.1.1
      have hx1 := hFR3.2.1.2.1
      have hx5 := hFR3.2.1.2.2.2.2
      have he0 := hFR3.2.2.1.1
      refine q_iload_n hJ dX10_perform_37 (q := 38) rfl rfl ?_
      refine q_iload_n hJ dX10_perform_38 (q := 39) rfl rfl ?_
      refine q_icmp_ge hJ (tgt := 77) dX10_perform_39 (q := 42) rfl (by decide) (fun c5 => absurd ((nI_leI (by omega) (by omega)).mp c5) (by omega)) (fun _ => ?_)
      refine q_aload_n hJ dX10_perform_42 (q := 43) rfl rfl (by first | rfl | exact isR_rr _) ?_
      refine q_getR hJ dX10_perform_43 (q := 46) rfl fl_X10_36 rfl (by first | assumption | exact ka_x) (by assumption) rfl ?_
      refine q_callV hJ dX10_perform_46 (q := 49) rfl (S_readStatement tx tn P F' I' R' hFR3 hT hF) imX9_readStatement ln_X10_145 hk315 (by decide) rfl rfl rfl rfl (Nat.le_of_ble_eq_true rfl) (by decide) (by decide) rfl rfl (fun rv gv Iv Rv hv => ?_)
      obtain ⟨rfl, rfl, rfl, hT2, hF2, hO2⟩ := hv
      have HC2 := HB.tx hT2 hO2
      refine q_aload_n hJ dX10_perform_49 (q := 50) rfl rfl (by first | rfl | exact isR_rr _) ?_
      refine q_callV hJ dX10_perform_50 (q := 53) rfl (S_performStatement (stmS tx tn P F').2 A' hs h sn kp tx tn A _ _ HC2 hF2) imX10_performStatement ln_X10_148 (by first | assumption | exact ka_x) (by decide) rfl rfl rfl rfl (Nat.le_of_ble_eq_true rfl) (by decide) (by decide) rfl rfl (fun rv gv Iv Rv hv => ?_)
      obtain ⟨rfl, rfl, hC, hMo⟩ := hv
      have hM3 : ∀ a, 317 ≤ a → Iv a = I a := fun a ha => by rw [hMo a (by omega), hO2 a (by omega)]; exact hMB a ha
      have ag : Agr _ Iv 315 317 := fun a q1 q2 => hMo a q1
      refine q_istore_n hJ dX10_perform_53 (q := 54) rfl (by decide) ?_
      refine q_iload_n hJ dX10_perform_54 (q := 55) rfl rfl ?_
      refine q_if_ge hJ (tgt := 71) dX10_perform_55 (q := 58) rfl (by decide) (fun c6 => ?_) (fun c6 => ?_)
      · have hg : ¬ (psR A' (stmS tx tn P F').2 < 0 ∧ ¬ psR A' (stmS tx tn P F').2 = -1006) := by first | exact fun z => z.2 c7 | exact fun z => absurd z.1 (Int32.not_lt.mpr c6)
        refine q_iinc hJ dX10_perform_71 (q := 74) rfl (by decide) rfl (nI_1 j) ?_
        refine q_goto hJ (tgt := 37) dX10_perform_74 (by decide) ?_
        refine ih (j + 1) _ _ _ _ _ hC (hT2.agr ag) (hF2.agr ag) hM3 _ (by omega) ?_
        rw [hj, prfL, if_neg hg]
      · refine q_iload_n hJ dX10_perform_58 (q := 59) rfl rfl ?_
        refine q_sipush hJ (v := (-1006)) dX10_perform_59 (q := 62) rfl (by decide) ?_
        refine q_icmp_eq hJ (tgt := 71) dX10_perform_62 (q := 65) rfl (by decide) (fun c7 => ?_) (fun c7 => ?_)
        · have hg : ¬ (psR A' (stmS tx tn P F').2 < 0 ∧ ¬ psR A' (stmS tx tn P F').2 = -1006) := by first | exact fun z => z.2 c7 | exact fun z => absurd z.1 (Int32.not_lt.mpr c6)
          refine q_iinc hJ dX10_perform_71 (q := 74) rfl (by decide) rfl (nI_1 j) ?_
          refine q_goto hJ (tgt := 37) dX10_perform_74 (by decide) ?_
          refine ih (j + 1) _ _ _ _ _ hC (hT2.agr ag) (hF2.agr ag) hM3 _ (by omega) ?_
          rw [hj, prfL, if_neg hg]
        · refine q_aload_n hJ dX10_perform_65 (q := 66) rfl rfl (by first | rfl | exact isR_rr _) ?_
          refine q_iload_n hJ dX10_perform_66 (q := 67) rfl rfl ?_
          have hb : psR A' (stmS tx tn P F').2 < 0 := Int32.not_le.mp c6
          have ex : prfX A tx tn F = (psR A' (stmS tx tn P F').2, psA A' (stmS tx tn P F').2) := by rw [hj, prfL, if_pos ⟨hb, c7⟩]
          refine q_callV hJ dX10_perform_67 (q := 70) rfl (S_settle _ hs h sn kp tx tn A _ _ _ hC) imX10_settle ln_X10_121 (by first | assumption | exact ka_x) (by decide) rfl rfl rfl rfl (Nat.le_of_ble_eq_true rfl) (by decide) (by decide) rfl rfl (fun rv gv Iv Rv hv => ?_)
          obtain ⟨rfl, rfl, hX, hM4⟩ := hv
          refine q_iret hM dX10_perform_70 rfl rfl ?_
          rw [if_pos hb] at hX
          refine ⟨by rw [prfV, if_neg hcv, ex, if_pos hb], rfl, Or.inr ⟨fun z => z.2 (by rw [ex]; exact hb), _, hX⟩, fun a ha => (hM4 a ha).trans (hM3 a ha)⟩
  refine q_aload_n hJ dX10_perform_0 (q := 1) rfl rfl (by first | rfl | exact isR_rr _) ?_
  refine q_getR hJ dX10_perform_1 (q := 4) rfl fl_X10_36 rfl (by first | assumption | exact ka_x) (by assumption) rfl ?_
  refine q_callV hJ dX10_perform_4 (q := 7) rfl (S_countStatements tx tn F I R hFR H.2.2.2.2.2.2.2.2.1 hF) imX9_countStatements ln_X10_139 hk315 (by decide) rfl rfl rfl rfl (Nat.le_of_ble_eq_true rfl) (by decide) (by decide) rfl rfl (fun rv gv Iv Rv hv => ?_)
  obtain ⟨rfl, rfl, rfl, hT, hF1, hO1⟩ := hv
  have H1 := H.tx hT hO1
  refine q_istore_n hJ dX10_perform_7 (q := 8) rfl (by decide) ?_
  refine q_iload_n hJ dX10_perform_8 (q := 9) rfl rfl ?_
  refine q_if_ge hJ (tgt := 14) dX10_perform_9 (q := 12) rfl (by decide) (fun c1 => ?_) (fun c1 => ?_)
  · refine q_aload_n hJ dX10_perform_14 (q := 15) rfl rfl (by first | rfl | exact isR_rr _) ?_
    refine q_getR hJ dX10_perform_15 (q := 18) rfl fl_X10_19 rfl (by first | assumption | exact ka_x) (by assumption) rfl ?_
    refine q_aload_n hJ dX10_perform_18 (q := 19) rfl rfl (by first | rfl | exact isR_rr _) ?_
    refine q_getR hJ dX10_perform_19 (q := 22) rfl fl_X10_10 rfl (by first | assumption | exact ka_x) (by assumption) rfl ?_
    refine q_getR hJ dX10_perform_22 (q := 25) rfl fl_X10_58 rfl (by first | assumption | exact ka_x) (by assumption) rfl ?_
    have hcv : ¬ cntV (cntR tx tn F) < 0 := Int32.not_lt.mpr c1
    refine q_callV hJ dX10_perform_25 (q := 28) rfl (S_stateCopy 61 2 B A _ R isB61 isB2 (by decide) hFR H1.2.2.2.2.1 H1.2.2.2.1 H1.2.2.2.2.2.2.2.2.2.1) imX7_copyFrom ln_X10_114 (ka_sta isB61) (by decide) rfl rfl rfl rfl (Nat.le_of_ble_eq_true rfl) (by decide) (by decide) rfl rfl (fun rv gv Iv Rv hv => ?_)
    obtain ⟨rfl, rfl, rfl, hX, hO⟩ := hv
    have H2 : CYB Iv R A hs h sn kp tx tn A := H1.put61 hX H1.2.2.2.2.2.2.2.2.2.1 hO
    refine q_aload_n hJ dX10_perform_28 (q := 29) rfl rfl (by first | rfl | exact isR_rr _) ?_
    refine q_getR hJ dX10_perform_29 (q := 32) rfl fl_X10_36 rfl (by first | assumption | exact ka_x) (by assumption) rfl ?_
    refine q_callV hJ dX10_perform_32 (q := 35) rfl (S_rewind _ _) imX9_rewind ln_X10_142 hk315 (by decide) rfl rfl rfl rfl (Nat.le_of_ble_eq_true rfl) (by decide) (by decide) rfl rfl (fun rv gv Iv Rv hv => ?_)
    obtain ⟨rfl, rfl, rfl, rfl⟩ := hv
    refine q_iconst hJ (v := 0) dX10_perform_35 (q := 36) rfl (by decide) ?_
    refine q_istore_n hJ dX10_perform_36 (q := 37) rfl (by decide) ?_
    have hc : cntV (cntR tx tn F) = nI (cntR tx tn F).2.1 := by
      unfold cntV at hcv ⊢
      split
      · rename_i z; rw [if_pos z] at hcv; exact absurd (cntN _ (TX.le hT)) hcv
      · rfl
    have hc80 := cntF_c tx tn 80 0 P0 F
    have hT3 := H2.2.2.2.2.2.2.2.2.1.rew
    have hO3 : ∀ a, a ≠ 315 → up2 (up2 Iv 315 2 0) 315 3 0 a = Iv a := fun a ha => by rw [t_o a ha, t_o a ha]
    have hF3 : TF (up2 (up2 Iv 315 2 0) 315 3 0) (cntR tx tn F).2.2 := fun k q1 q2 => by rw [up2_app, if_neg (fun z => by omega), up2_app, if_neg (fun z => by omega), hO 315 (by omega)]; exact hF1 k q1 q2
    rw [hc]
    exact loop hcv (cntR tx tn F).2.1 hc (Nat.le_trans hc80 (Nat.le_of_eq (Nat.zero_add 80))) _ 0 _ _ _ _ _ (H2.tx hT3 hO3) hT3 hF3 (fun a ha => by rw [hO3 a (by omega), hO a (by omega)]; exact hO1 a (by omega)) none (Nat.add_zero _) rfl
  · refine q_iload_n hJ dX10_perform_12 (q := 13) rfl rfl ?_
    refine q_iret hM dX10_perform_13 rfl rfl ?_
    have hb : cntV (cntR tx tn F) < 0 := Int32.not_le.mp c1
    exact ⟨by rw [prfV, if_pos hb], rfl, Or.inr ⟨fun z => z.1 hb, B, H1⟩, fun a ha => hO1 a (by omega)⟩

