/-! THE OTHER CALLS: rules, settings, history, text -/
def setR (A : AS) (U : Nat → Nat → Int32) (m : Nat) : AS := (A.1, A.2.1, U, m, A.2.2.2.2)
def kindF (m k : Int32) : Int32 := if m = 0 then inR k 0 2 else if k = 1 then 1 else inR k 3 5
theorem kindF_01 (m k : Int32) : kindF m k = 0 ∨ kindF m k = 1 := by
  unfold kindF
  split
  · exact inR_01 _ _ _
  · split
    · exact Or.inr rfl
    · exact inR_01 _ _ _
theorem insR_congr {f g : Nat → Int32} {o : Nat → Nat} {x : Int32} {n : Nat} (h : ∀ j, j < n → f (o j) = g (o j)) : insR f o x n = insR g o x n := by
  induction n with
  | zero => rfl
  | succ n ih =>
    unfold insR
    rw [h n (by omega), ih (fun j hj => h j (by omega))]
theorem osrt_congr {f g : Nat → Int32} {k : Nat} (h : ∀ j, j < k → f j = g j) : osrt f k = osrt g k := by
  induction k with
  | zero => rfl
  | succ k ih =>
    have e := ih (fun j hj => h j (by omega))
    have e2 : insR f (osrt f k) (f k) k = insR g (osrt g k) (g k) k := by
      rw [e, h k (by omega)]
      exact insR_congr (fun j hj => h _ (by have := osrt_lt g k j hj; omega))
    unfold osrt
    rw [e2, e]
theorem CYB.putR {I I' : MI} {R R' : MR} {A : AS} {hs : Nat → AS} {h : Nat} {sn : AS} {kp : Bool} {tx : Nat → Int32} {tn : Nat} {B : AS} (H : CYB I R A hs h sn kp tx tn B) {U : Nat → Nat → Int32} {m : Nat} (hU : RulC I' R' 2 U m) (ok : okU U m) (hO : Out I I' 25 40) (hR : Out R R' 26 27) (hFR : FR R') : CYB I' R' (setR A U m) hs h sn kp tx tn B := by
  obtain ⟨e1, e2, e3, e4, e5, e6, e7, e8, e9, e10, e11, e12, e13⟩ := H
  have ag : ∀ lo hi, 40 ≤ lo → Agr I I' lo hi := fun lo hi q => hO.agr (Or.inr q)
  have aR : ∀ lo hi, 40 ≤ lo → Agr R R' lo hi := fun lo hi q => hR.agr (Or.inr (by omega))
  refine ⟨hFR, e2.out hO (by omega), e3.out hO (by omega), ⟨e4.1.agr (hO.agr (by omega)), e4.2.1.agr (hO.agr (by omega)) (hR.agr (by omega)), hU, e4.2.2.2.agr (ag _ _ (by omega))⟩, e5.agr (ag _ _ (by omega)) (aR _ _ (by omega)), e6.agr (ag _ _ (by omega)) (aR _ _ (by omega)), by rw [hO 0 (by omega)]; exact e7, e8.agr (ag _ _ (by omega)) (aR _ _ (by omega)), e9.agr (ag _ _ (by omega)), ok, e11, e12, e13⟩
theorem CYB.putT {I I' : MI} {R : MR} {A : AS} {hs : Nat → AS} {h : Nat} {sn : AS} {kp : Bool} {tx tx' : Nat → Int32} {tn tn' : Nat} {B : AS} (H : CYB I R A hs h sn kp tx tn B) (hT : TW I' tx' tn') (hO : Out I I' 315 317) : CYB I' R A hs h sn kp tx' tn' B := by
  obtain ⟨e1, e2, e3, e4, e5, e6, e7, e8, e9, e10, e11, e12, e13⟩ := H
  exact ⟨e1, e2.out hO (by omega), e3.out hO (by omega), e4.agr (hO.agr (by omega)) (Agr.rf _ _ _), e5.agr (hO.agr (by omega)) (Agr.rf _ _ _), e6.agr (hO.agr (by omega)) (Agr.rf _ _ _), by rw [hO 0 (by omega)]; exact e7, e8.agr (hO.agr (by omega)) (Agr.rf _ _ _), hT, e10, e11, e12, e13⟩
theorem CYB.kept {I : MI} {R : MR} {A : AS} {hs : Nat → AS} {h : Nat} {sn : AS} {kp : Bool} {tx : Nat → Int32} {tn : Nat} {B : AS} (H : CYB I R A hs h sn kp tx tn B) : CYB (up2 I 0 3 1) R A hs h sn true tx tn B := by
  obtain ⟨e1, e2, e3, e4, e5, e6, e7, e8, e9, e10, e11, e12, e13⟩ := H
  have hO : Out I (up2 I 0 3 1) 0 1 := (Out.rf I 0 1).up (by omega) (by omega)
  exact ⟨e1, e2.out hO (by omega), e3.out hO (by omega), e4.agr (hO.agr (by omega)) (Agr.rf _ _ _), e5.agr (hO.agr (by omega)) (Agr.rf _ _ _), e6.agr (hO.agr (by omega)) (Agr.rf _ _ _), rfl, e8.agr (hO.agr (by omega)) (Agr.rf _ _ _), e9.agr (hO.agr (by omega)), e10, e11, e12, e13⟩
theorem up2_out {α : Type} (I : Nat → Nat → α) {a k lo hi : Nat} (v : α) (h1 : lo ≤ a) (h2 : a < hi) : Out I (up2 I a k v) lo hi := (Out.rf I lo hi).up h1 h2
theorem HC.h4 {I : MI} {R : MR} {hs : Nat → AS} {h : Nat} (H : HC I R hs h) : h ≤ 4 := H.2.1
set_option maxRecDepth 100000 in
set_option maxHeartbeats 400000 in
theorem S_isKindFor (m k : Int32) (I : MI) (R : MR) : Sp 1 0 0 mX10_isKindFor [.int m, .int k] g0 I R (Rt (some (.int (kindF m k))) g0 I R) := by
  refine Sp.on (by decide +kernel) rfl rfl (fun J hM => ?_)
  have hJ := hM.ok
  refine q_iload_n hJ dX10_isKindFor_0 (q := 1) rfl rfl ?_
  refine q_if_ne hJ (tgt := 11) dX10_isKindFor_1 (q := 4) rfl (by decide) (fun c1 => ?_) (fun c1 => ?_)
  · refine q_iload_n hJ dX10_isKindFor_11 (q := 12) rfl rfl ?_
    refine q_iconst hJ (v := 1) dX10_isKindFor_12 (q := 13) rfl (by decide) ?_
    refine q_icmp_eq hJ (tgt := 25) dX10_isKindFor_13 (q := 16) rfl (by decide) (fun c2 => ?_) (fun c2 => ?_)
    · refine q_iconst hJ (v := 1) dX10_isKindFor_25 (q := 26) rfl (by decide) ?_
      refine q_goto hJ (tgt := 30) dX10_isKindFor_26 (by decide) ?_
      refine q_iret hM dX10_isKindFor_30 rfl (nz rfl (by decide)) ?_
      first | exact ⟨by rw [kindF, if_neg c1, if_pos c2], rfl, rfl, rfl⟩ | exact ⟨by rw [kindF, if_neg c1, if_neg c2, c3], rfl, rfl, rfl⟩ | exact ⟨by rw [kindF, if_neg c1, if_neg c2, inR_ne c3], rfl, rfl, rfl⟩
    · refine q_iload_n hJ dX10_isKindFor_16 (q := 17) rfl rfl ?_
      refine q_iconst hJ (v := 3) dX10_isKindFor_17 (q := 18) rfl (by decide) ?_
      refine q_iconst hJ (v := 5) dX10_isKindFor_18 (q := 19) rfl (by decide) ?_
      refine q_callS hJ dX10_isKindFor_19 (q := 22) rfl (S_within k 3 5 I R) imX10_within ln_X10_47 rfl rfl rfl (Nat.le_of_ble_eq_true rfl) (by decide) (by decide) rfl rfl (fun rv gv Iv Rv hv => ?_)
      obtain ⟨rfl, rfl, rfl, rfl⟩ := hv
      refine q_if_eq hJ (tgt := 29) dX10_isKindFor_22 (q := 25) rfl (by decide) (fun c3 => ?_) (fun c3 => ?_)
      · refine q_iconst hJ (v := 0) dX10_isKindFor_29 (q := 30) rfl (by decide) ?_
        refine q_iret hM dX10_isKindFor_30 rfl (nz rfl (by decide)) ?_
        first | exact ⟨by rw [kindF, if_neg c1, if_pos c2], rfl, rfl, rfl⟩ | exact ⟨by rw [kindF, if_neg c1, if_neg c2, c3], rfl, rfl, rfl⟩ | exact ⟨by rw [kindF, if_neg c1, if_neg c2, inR_ne c3], rfl, rfl, rfl⟩
      · refine q_iconst hJ (v := 1) dX10_isKindFor_25 (q := 26) rfl (by decide) ?_
        refine q_goto hJ (tgt := 30) dX10_isKindFor_26 (by decide) ?_
        refine q_iret hM dX10_isKindFor_30 rfl (nz rfl (by decide)) ?_
        first | exact ⟨by rw [kindF, if_neg c1, if_pos c2], rfl, rfl, rfl⟩ | exact ⟨by rw [kindF, if_neg c1, if_neg c2, c3], rfl, rfl, rfl⟩ | exact ⟨by rw [kindF, if_neg c1, if_neg c2, inR_ne c3], rfl, rfl, rfl⟩
  · refine q_iload_n hJ dX10_isKindFor_4 (q := 5) rfl rfl ?_
    refine q_iconst hJ (v := 0) dX10_isKindFor_5 (q := 6) rfl (by decide) ?_
    refine q_iconst hJ (v := 2) dX10_isKindFor_6 (q := 7) rfl (by decide) ?_
    refine q_callS hJ dX10_isKindFor_7 (q := 10) rfl (S_within k 0 2 I R) imX10_within ln_X10_47 rfl rfl rfl (Nat.le_of_ble_eq_true rfl) (by decide) (by decide) rfl rfl (fun rv gv Iv Rv hv => ?_)
    obtain ⟨rfl, rfl, rfl, rfl⟩ := hv
    refine q_iret hM dX10_isKindFor_10 rfl (nz rfl (inR_01 _ _ _)) ?_
    exact ⟨by rw [kindF, if_pos c1], rfl, rfl, rfl⟩

set_option maxRecDepth 100000 in
set_option maxHeartbeats 400000 in
theorem S_undo (A : AS) (hs : Nat → AS) (h : Nat) (sn : AS) (kp : Bool) (tx : Nat → Int32) (tn : Nat) (B : AS) (I : MI) (R : MR) (H : CYB I R A hs h sn kp tx tn B) : Sp 37 0 0 mX10_undo [.ref 0] g0 I R (CyP (if h = 0 then -1006 else nI (h - 1)) I (fun I' R' => CYB I' R' (if h = 0 then A else hs (h - 1)) hs (h - 1) sn kp tx tn B)) := by
  have hFR := H.1
  have hk1 := ka1
  have hk2 := ka_sta isB2
  have hkt := ka_tbl isB2
  have hkr := ka_rls isB2
  have hkg := ka_log isB2
  have hk145 := ka145
  have hk315 := ka315
  have hx0 := hFR.2.1.1
  have hx1 := hFR.2.1.2.1
  have hx2 := hFR.2.1.2.2.1
  have hx4 := hFR.2.1.2.2.2.1
  have hx5 := hFR.2.1.2.2.2.2
  have he0 := hFR.2.2.1.1
  have hs0 : R 2 0 = some (2 + 1) := (hFR.1 2 isB2).1
  have hs1 : R 2 1 = some (2 + 23) := (hFR.1 2 isB2).2.1
  have hs2 : R 2 2 = some (2 + 38) := (hFR.1 2 isB2).2.2.1
  have hh4 := H.2.2.2.2.2.2.2.1.h4
  refine Sp.on (by decide +kernel) rfl rfl (fun J hM => ?_)
  have hJ := hM.ok
  rcases Nat.eq_zero_or_pos h with h0 | h0
  · refine q_aload_n hJ dX10_undo_0 (q := 1) rfl rfl (by first | rfl | exact isR_rr _) ?_
    refine q_getR hJ dX10_undo_1 (q := 4) rfl fl_X10_29 rfl (by first | assumption | exact ka_x) (by assumption) rfl ?_
    refine q_aload_n hJ dX10_undo_4 (q := 5) rfl rfl (by first | rfl | exact isR_rr _) ?_
    refine q_getR hJ dX10_undo_5 (q := 8) rfl fl_X10_10 rfl (by first | assumption | exact ka_x) (by assumption) rfl ?_
    refine q_getR hJ dX10_undo_8 (q := 11) rfl fl_X10_58 rfl (by first | assumption | exact ka_x) (by assumption) rfl ?_
    refine q_callV hJ dX10_undo_11 (q := 14) rfl (S_pop0 2 I R (by rw [H.2.2.2.2.2.2.2.1.1, h0])) imX2_popInto ln_X10_151 hk145 (by decide) rfl rfl rfl rfl (Nat.le_of_ble_eq_true rfl) (by decide) (by decide) rfl rfl (fun rv gv Iv Rv hv => ?_)
    obtain ⟨rfl, rfl, rfl, rfl⟩ := hv
    refine q_if_eq hJ (tgt := 27) dX10_undo_14 (q := 17) rfl (by decide) (fun _ => ?_) (fun c1 => absurd rfl c1)
    refine q_sipush hJ (v := (-1006)) dX10_undo_27 (q := 30) rfl (by decide) ?_
    refine q_iret hM dX10_undo_30 rfl rfl ?_
    exact ⟨by rw [if_pos h0], rfl, by rw [if_pos h0, show h - 1 = h by omega]; exact H, fun a ha => rfl⟩
  · refine q_aload_n hJ dX10_undo_0 (q := 1) rfl rfl (by first | rfl | exact isR_rr _) ?_
    refine q_getR hJ dX10_undo_1 (q := 4) rfl fl_X10_29 rfl (by first | assumption | exact ka_x) (by assumption) rfl ?_
    refine q_aload_n hJ dX10_undo_4 (q := 5) rfl rfl (by first | rfl | exact isR_rr _) ?_
    refine q_getR hJ dX10_undo_5 (q := 8) rfl fl_X10_10 rfl (by first | assumption | exact ka_x) (by assumption) rfl ?_
    refine q_getR hJ dX10_undo_8 (q := 11) rfl fl_X10_58 rfl (by first | assumption | exact ka_x) (by assumption) rfl ?_
    refine q_callV hJ dX10_undo_11 (q := 14) rfl (S_pop 2 h hs A I R hFR H.2.2.2.2.2.2.2.1 h0 isB2 (by decide) H.2.2.2.1 (fun j hj => H.2.2.2.2.2.2.2.2.2.2.2.2 j (by omega))) imX2_popInto ln_X10_151 hk145 (by decide) rfl rfl rfl rfl (Nat.le_of_ble_eq_true rfl) (by decide) (by decide) rfl rfl (fun rv gv Iv Rv hv => ?_)
    obtain ⟨rfl, rfl, rfl, hX, hH, hO⟩ := hv
    refine q_if_eq hJ (tgt := 27) dX10_undo_14 (q := 17) rfl (by decide) (fun c1 => absurd c1 (by decide)) (fun _ => ?_)
    refine q_aload_n hJ dX10_undo_17 (q := 18) rfl rfl (by first | rfl | exact isR_rr _) ?_
    refine q_getR hJ dX10_undo_18 (q := 21) rfl fl_X10_29 rfl (by first | assumption | exact ka_x) (by assumption) rfl ?_
    refine q_getI hJ dX10_undo_21 (q := 24) rfl fl_X10_155 rfl hk145 hH.1 ?_
    refine q_goto hJ (tgt := 30) dX10_undo_24 (by decide) ?_
    refine q_iret hM dX10_undo_30 rfl rfl ?_
    refine ⟨by rw [if_neg (Nat.ne_of_gt h0)], rfl, ?_, fun a ha => hO a (by omega) (by omega)⟩
    rw [if_neg (Nat.ne_of_gt h0)]
    obtain ⟨e1, e2, e3, e4, e5, e6, e7, e8, e9, e10, e11, e12, e13⟩ := H
    have ag : ∀ lo hi, 44 ≤ lo → (hi ≤ 145 ∨ 146 ≤ lo) → Agr I Iv lo hi := fun lo hi q1 q2 a z1 z2 => hO a (by omega) (by omega)
    refine ⟨e1, fun d h1 h8 => by rw [hO _ (by omega) (by omega)]; exact e2 d h1 h8, fun r hr => by rw [hO 44 (by omega) (by omega)]; exact e3 r hr, hX, e5.agr (ag _ _ (by omega) (by omega)) (Agr.rf _ _ _), e6.agr (ag _ _ (by omega) (by omega)) (Agr.rf _ _ _), by rw [hO 0 (by omega) (by omega)]; exact e7, hH, e9.agr (ag _ _ (by omega) (by omega)), e13 _ (by omega), e11, e12, e13⟩

set_option maxRecDepth 100000 in
set_option maxHeartbeats 400000 in
theorem S_restore (A : AS) (hs : Nat → AS) (h : Nat) (sn : AS) (kp : Bool) (tx : Nat → Int32) (tn : Nat) (B : AS) (I : MI) (R : MR) (H : CYB I R A hs h sn kp tx tn B) : Sp 37 0 0 mX10_restore [.ref 0] g0 I R (CyP (if kp = true then nI (aN sn) else -1006) I (fun I' R' => CYB I' R' (if kp = true then sn else A) (if kp = true then pushH hs h A else hs) (if kp = true then pushN h else h) sn kp tx tn B)) := by
  have hFR := H.1
  have hk1 := ka1
  have hk2 := ka_sta isB2
  have hkt := ka_tbl isB2
  have hkr := ka_rls isB2
  have hkg := ka_log isB2
  have hk145 := ka145
  have hk315 := ka315
  have hx0 := hFR.2.1.1
  have hx1 := hFR.2.1.2.1
  have hx2 := hFR.2.1.2.2.1
  have hx4 := hFR.2.1.2.2.2.1
  have hx5 := hFR.2.1.2.2.2.2
  have he0 := hFR.2.2.1.1
  have hs0 : R 2 0 = some (2 + 1) := (hFR.1 2 isB2).1
  have hs1 : R 2 1 = some (2 + 23) := (hFR.1 2 isB2).2.1
  have hs2 : R 2 2 = some (2 + 38) := (hFR.1 2 isB2).2.2.1
  refine Sp.on (by decide +kernel) rfl rfl (fun J hM => ?_)
  have hJ := hM.ok
  rcases Bool.eq_false_or_eq_true kp with hkp | hkp
  · refine q_aload_n hJ dX10_restore_0 (q := 1) rfl rfl (by first | rfl | exact isR_rr _) ?_
    refine q_getI hJ dX10_restore_1 (q := 4) rfl fl_X10_156 rfl (by first | assumption | exact ka_x) (show _ = 1 from by rw [H.2.2.2.2.2.2.1, hkp]; rfl) ?_
    refine q_if_ne hJ (tgt := 11) dX10_restore_4 (q := 7) rfl (by decide) (fun _ => ?_) (fun c1 => absurd c1 (by decide))
    refine q_aload_n hJ dX10_restore_11 (q := 12) rfl rfl (by first | rfl | exact isR_rr _) ?_
    refine q_getR hJ dX10_restore_12 (q := 15) rfl fl_X10_29 rfl (by first | assumption | exact ka_x) (by assumption) rfl ?_
    refine q_aload_n hJ dX10_restore_15 (q := 16) rfl rfl (by first | rfl | exact isR_rr _) ?_
    refine q_getR hJ dX10_restore_16 (q := 19) rfl fl_X10_10 rfl (by first | assumption | exact ka_x) (by assumption) rfl ?_
    refine q_getR hJ dX10_restore_19 (q := 22) rfl fl_X10_58 rfl (by first | assumption | exact ka_x) (by assumption) rfl ?_
    refine q_callV hJ dX10_restore_22 (q := 25) rfl (S_push 2 h hs A I R hFR H.2.2.2.2.2.2.2.1 isB2 (by decide) H.2.2.2.1 H.2.2.2.2.2.2.2.2.2.1) imX2_push ln_X10_71 hk145 (by decide) rfl rfl rfl rfl (Nat.le_of_ble_eq_true rfl) (by decide) (by decide) rfl rfl (fun rv gv Iv Rv hv => ?_)
    obtain ⟨rfl, rfl, hX, hO, hR, hFR2⟩ := hv
    have H1 := H.putH hX (pushH_ok H.2.2.2.2.2.2.2.2.2.2.2.2 H.2.2.2.2.2.2.2.2.2.1) hO hR hFR2
    have hy0 := hFR2.2.1.1
    have hy2 := hFR2.2.1.2.2.1
    have hf0 := hFR2.2.2.1.1
    refine q_aload_n hJ dX10_restore_25 (q := 26) rfl rfl (by first | rfl | exact isR_rr _) ?_
    refine q_getR hJ dX10_restore_26 (q := 29) rfl fl_X10_10 rfl (by first | assumption | exact ka_x) (by assumption) rfl ?_
    refine q_getR hJ dX10_restore_29 (q := 32) rfl fl_X10_58 rfl (by first | assumption | exact ka_x) (by assumption) rfl ?_
    refine q_aload_n hJ dX10_restore_32 (q := 33) rfl rfl (by first | rfl | exact isR_rr _) ?_
    refine q_getR hJ dX10_restore_33 (q := 36) rfl fl_X10_23 rfl (by first | assumption | exact ka_x) (by assumption) rfl ?_
    refine q_callV hJ dX10_restore_36 (q := 39) rfl (S_stateCopy 2 103 A sn _ _ isB2 isB103 (by decide) hFR2 H1.2.2.2.1 H1.2.2.2.2.2.1 H1.2.2.2.2.2.2.2.2.2.2.2.1) imX7_copyFrom ln_X10_114 hk2 (by decide) rfl rfl rfl rfl (Nat.le_of_ble_eq_true rfl) (by decide) (by decide) rfl rfl (fun rv gv Iv Rv hv => ?_)
    obtain ⟨rfl, rfl, rfl, hX2, hO2⟩ := hv
    have H2 := H1.st2 hX2 H1.2.2.2.2.2.2.2.2.2.2.2.1 hO2
    have hkt103 := ka_tbl isB103
    have hs103 : Rv 103 0 = some (103 + 1) := (hFR2.1 103 isB103).1
    refine q_aload_n hJ dX10_restore_39 (q := 40) rfl rfl (by first | rfl | exact isR_rr _) ?_
    refine q_getR hJ dX10_restore_40 (q := 43) rfl fl_X10_23 rfl (by first | assumption | exact ka_x) (by assumption) rfl ?_
    refine q_getR hJ dX10_restore_43 (q := 46) rfl fl_X10_159 rfl (ka_sta isB103) (by assumption) rfl ?_
    refine q_getI hJ dX10_restore_46 (q := 49) rfl fl_X10_163 rfl hkt103 (show _ = nI (aN sn) from by obtain ⟨P, hS, _⟩ := H2.2.2.2.2.2.1.2.1; exact hS.1) ?_
    refine q_iret hM dX10_restore_49 rfl rfl ?_
    exact ⟨by rw [hkp]; rfl, rfl, by rw [hkp] at H2 ⊢; exact H2, fun a ha => by rw [hO2 a (by omega)]; exact hO a (by omega)⟩
  · refine q_aload_n hJ dX10_restore_0 (q := 1) rfl rfl (by first | rfl | exact isR_rr _) ?_
    refine q_getI hJ dX10_restore_1 (q := 4) rfl fl_X10_156 rfl (by first | assumption | exact ka_x) (show _ = 0 from by rw [H.2.2.2.2.2.2.1, hkp]; rfl) ?_
    refine q_if_ne hJ (tgt := 11) dX10_restore_4 (q := 7) rfl (by decide) (fun c1 => absurd rfl c1) (fun _ => ?_)
    refine q_sipush hJ (v := (-1006)) dX10_restore_7 (q := 10) rfl (by decide) ?_
    refine q_iret hM dX10_restore_10 rfl rfl ?_
    exact ⟨by rw [hkp]; rfl, rfl, by rw [hkp] at H ⊢; exact H, fun a ha => rfl⟩

def setV (A : AS) (s v : Int32) : Int32 := if inR s 0 1 = 0 then -1001 else if (if s = 0 then inR v 1 8 else inR v 0 1) = 0 then -1002 else if aS A (if s = 0 then 0 else 1) = v then -1006 else aS A (if s = 0 then 0 else 1)
def setOk (A : AS) (s v : Int32) : Prop := ¬ inR s 0 1 = 0 ∧ ¬ (if s = 0 then inR v 1 8 else inR v 0 1) = 0 ∧ ¬ aS A (if s = 0 then 0 else 1) = v
def setA (A : AS) (s v : Int32) : AS := setS A (fun i => if i = (if s = 0 then 0 else 1) then v else aS A i)
theorem CYB.setg {I : MI} {R : MR} {A : AS} {hs : Nat → AS} {h : Nat} {sn : AS} {kp : Bool} {tx : Nat → Int32} {tn : Nat} {B : AS} (H : CYB I R A hs h sn kp tx tn B) (k : Nat) (v : Int32) : CYB (up2 I 2 (3 + k) v) R (setS A (fun i => if i = k then v else aS A i)) hs h sn kp tx tn B := by
  have hO : Out I (up2 I 2 (3 + k) v) 2 3 := up2_out I v (by decide) (by decide)
  have hA := H.2.2.2.1
  refine H.st2 ⟨fun i hi => ?_, hA.2.1.agr (hO.agr (by omega)) (Agr.rf _ _ _), hA.2.2.1.agr (hO.agr (by omega)) (Agr.rf _ _ _), hA.2.2.2.agr (hO.agr (by omega))⟩ H.2.2.2.2.2.2.2.2.2.1 (hO.wide (by decide) (by decide))
  show (if 2 = 2 ∧ 3 + i = 3 + k then v else I 2 (3 + i)) = if i = k then v else aS A i
  by_cases e : i = k
  · rw [if_pos ⟨rfl, by omega⟩, if_pos e]
  · rw [if_neg (fun z => e (by omega)), if_neg e]; exact hA.1 i hi
set_option maxRecDepth 100000 in
set_option maxHeartbeats 400000 in
theorem S_set (s v : Int32) (A : AS) (hs : Nat → AS) (h : Nat) (sn : AS) (kp : Bool) (tx : Nat → Int32) (tn : Nat) (B : AS) (I : MI) (R : MR) (H : CYB I R A hs h sn kp tx tn B) : Sp 37 0 0 mX10_set [.ref 0, .int s, .int v] g0 I R (CyP (setV A s v) I (fun I' R' => (setOk A s v ∧ CYB I' R' (setA A s v) (pushH hs h A) (pushN h) sn kp tx tn B) ∨ (¬ setOk A s v ∧ CYB I' R' A hs h sn kp tx tn B))) := by
  have hFR := H.1
  have hk1 := ka1
  have hk2 := ka_sta isB2
  have hkt := ka_tbl isB2
  have hkr := ka_rls isB2
  have hkg := ka_log isB2
  have hk145 := ka145
  have hk315 := ka315
  have hx0 := hFR.2.1.1
  have hx1 := hFR.2.1.2.1
  have hx2 := hFR.2.1.2.2.1
  have hx4 := hFR.2.1.2.2.2.1
  have hx5 := hFR.2.1.2.2.2.2
  have he0 := hFR.2.2.1.1
  have hs0 : R 2 0 = some (2 + 1) := (hFR.1 2 isB2).1
  have hs1 : R 2 1 = some (2 + 23) := (hFR.1 2 isB2).2.1
  have hs2 : R 2 2 = some (2 + 38) := (hFR.1 2 isB2).2.2.1
  refine Sp.on (by decide +kernel) rfl rfl (fun J hM => ?_)
  have hJ := hM.ok
  refine q_iload_n hJ dX10_set_0 (q := 1) rfl rfl ?_
  refine q_iconst hJ (v := 0) dX10_set_1 (q := 2) rfl (by decide) ?_
  refine q_iconst hJ (v := 1) dX10_set_2 (q := 3) rfl (by decide) ?_
  refine q_callS hJ dX10_set_3 (q := 6) rfl (S_within s 0 1 I R) imX10_within ln_X10_47 rfl rfl rfl (Nat.le_of_ble_eq_true rfl) (by decide) (by decide) rfl rfl (fun rv gv Iv Rv hv => ?_)
  obtain ⟨rfl, rfl, rfl, rfl⟩ := hv
  by_cases c1 : inR s 0 1 = 0
  · refine q_if_ne hJ (tgt := 13) dX10_set_6 (q := 9) rfl (by decide) (fun q1 => absurd c1 q1) (fun _ => ?_)
    refine q_sipush hJ (v := (-1001)) dX10_set_9 (q := 12) rfl (by decide) ?_
    refine q_iret hM dX10_set_12 rfl rfl ?_
    exact ⟨by unfold setV; rw [if_pos c1], rfl, Or.inr ⟨fun z => z.1 c1, H⟩, fun a ha => rfl⟩
  · by_cases c2 : s = 0
    · refine q_if_ne hJ (tgt := 13) dX10_set_6 (q := 9) rfl (by decide) (fun _ => ?_) (fun q1 => absurd q1 c1)
      refine q_iload_n hJ dX10_set_13 (q := 14) rfl rfl ?_
      refine q_if_ne hJ (tgt := 27) dX10_set_14 (q := 17) rfl (by decide) (fun q2 => absurd c2 q2) (fun _ => ?_)
      refine q_iload_n hJ dX10_set_17 (q := 18) rfl rfl ?_
      refine q_iconst hJ (v := 1) dX10_set_18 (q := 19) rfl (by decide) ?_
      refine q_bipush hJ (v := 8) dX10_set_19 (q := 21) rfl (by decide) ?_
      refine q_callS hJ dX10_set_21 (q := 24) rfl (S_within v 1 8 I R) imX10_within ln_X10_47 rfl rfl rfl (Nat.le_of_ble_eq_true rfl) (by decide) (by decide) rfl rfl (fun rv gv Iv Rv hv => ?_)
      obtain ⟨rfl, rfl, rfl, rfl⟩ := hv
      refine q_goto hJ (tgt := 33) dX10_set_24 (by decide) ?_
      refine q_istore_n hJ dX10_set_33 (q := 34) rfl (by decide) ?_
      refine q_iload_n hJ dX10_set_34 (q := 35) rfl rfl ?_
      refine q_if_ne hJ (tgt := 42) dX10_set_35 (q := 38) rfl (by decide) (fun c3 => ?_) (fun c3 => ?_)
      · refine q_aload_n hJ dX10_set_42 (q := 43) rfl rfl (by first | rfl | exact isR_rr _) ?_
        refine q_getR hJ dX10_set_43 (q := 46) rfl fl_X10_10 rfl (by first | assumption | exact ka_x) (by assumption) rfl ?_
        refine q_getR hJ dX10_set_46 (q := 49) rfl fl_X10_58 rfl (by first | assumption | exact ka_x) (by assumption) rfl ?_
        refine q_astore hJ dX10_set_49 (q := 51) rfl (by decide) (by first | rfl | exact isR_rr _) ?_
        refine q_iload_n hJ dX10_set_51 (q := 52) rfl rfl ?_
        refine q_if_ne hJ (tgt := 63) dX10_set_52 (q := 55) rfl (by decide) (fun q3 => absurd c2 q3) (fun _ => ?_)
        refine q_aload hJ dX10_set_55 (q := 57) rfl rfl (by first | rfl | exact isR_rr _) ?_
        refine q_getI hJ dX10_set_57 (q := 60) rfl fl_X10_108 rfl hk2 (H.2.2.2.1.1 0 (by decide)) ?_
        refine q_goto hJ (tgt := 68) dX10_set_60 (by decide) ?_
        refine q_istore hJ dX10_set_68 (q := 70) rfl (by decide) ?_
        refine q_iload hJ dX10_set_70 (q := 72) rfl rfl ?_
        refine q_iload_n hJ dX10_set_72 (q := 73) rfl rfl ?_
        refine q_icmp_ne hJ (tgt := 80) dX10_set_73 (q := 76) rfl (by decide) (fun c4 => ?_) (fun c4 => ?_)
        · refine q_aload_n hJ dX10_set_80 (q := 81) rfl rfl (by first | rfl | exact isR_rr _) ?_
          refine q_getR hJ dX10_set_81 (q := 84) rfl fl_X10_29 rfl (by first | assumption | exact ka_x) (by assumption) rfl ?_
          refine q_aload hJ dX10_set_84 (q := 86) rfl rfl (by first | rfl | exact isR_rr _) ?_
          refine q_callV hJ dX10_set_86 (q := 89) rfl (S_push 2 h hs A I R hFR H.2.2.2.2.2.2.2.1 isB2 (by decide) H.2.2.2.1 H.2.2.2.2.2.2.2.2.2.1) imX2_push ln_X10_71 hk145 (by decide) rfl rfl rfl rfl (Nat.le_of_ble_eq_true rfl) (by decide) (by decide) rfl rfl (fun rv gv Iv Rv hv => ?_)
          obtain ⟨rfl, rfl, hX, hOp, hRp, hFR2⟩ := hv
          have H1 := H.putH hX (pushH_ok H.2.2.2.2.2.2.2.2.2.2.2.2 H.2.2.2.2.2.2.2.2.2.1) hOp hRp hFR2
          have hy0 := hFR2.2.1.1
          have hy2 := hFR2.2.1.2.2.1
          have hf0 := hFR2.2.2.1.1
          have ht0 : Rv 2 0 = some (2 + 1) := (hFR2.1 2 isB2).1
          have ht1 : Rv 2 1 = some (2 + 23) := (hFR2.1 2 isB2).2.1
          refine q_iload_n hJ dX10_set_89 (q := 90) rfl rfl ?_
          refine q_if_ne hJ (tgt := 102) dX10_set_90 (q := 93) rfl (by decide) (fun q4 => absurd c2 q4) (fun _ => ?_)
          refine q_aload hJ dX10_set_93 (q := 95) rfl rfl (by first | rfl | exact isR_rr _) ?_
          refine q_iload_n hJ dX10_set_95 (q := 96) rfl rfl ?_
          refine q_putI hJ dX10_set_96 (q := 99) rfl fl_X10_108 rfl rfl hk2 rfl rfl ?_
          refine q_goto hJ (tgt := 108) dX10_set_99 (by decide) ?_
          refine q_iload hJ dX10_set_108 (q := 110) rfl rfl ?_
          refine q_iret hM dX10_set_110 rfl rfl ?_
          refine ⟨by unfold setV; rw [if_neg c1, if_pos c2, if_neg c3, if_pos c2, if_neg c4], rfl, Or.inl ⟨⟨c1, by rw [if_pos c2]; exact c3, by rw [if_pos c2]; exact c4⟩, ?_⟩, fun a ha => by rw [up2_other _ _ _ _ (by omega)]; exact hOp a (by omega)⟩
          unfold setA
          rw [if_pos c2]
          exact H1.setg 0 v
        · refine q_sipush hJ (v := (-1006)) dX10_set_76 (q := 79) rfl (by decide) ?_
          refine q_iret hM dX10_set_79 rfl rfl ?_
          exact ⟨by unfold setV; rw [if_neg c1, if_pos c2, if_neg c3, if_pos c2, if_pos c4], rfl, Or.inr ⟨fun z => z.2.2 (by rw [if_pos c2]; exact c4), H⟩, fun a ha => rfl⟩
      · refine q_sipush hJ (v := (-1002)) dX10_set_38 (q := 41) rfl (by decide) ?_
        refine q_iret hM dX10_set_41 rfl rfl ?_
        exact ⟨by unfold setV; rw [if_neg c1, if_pos c2, if_pos c3], rfl, Or.inr ⟨fun z => z.2.1 (by rw [if_pos c2]; exact c3), H⟩, fun a ha => rfl⟩
    · refine q_if_ne hJ (tgt := 13) dX10_set_6 (q := 9) rfl (by decide) (fun _ => ?_) (fun q1 => absurd q1 c1)
      refine q_iload_n hJ dX10_set_13 (q := 14) rfl rfl ?_
      refine q_if_ne hJ (tgt := 27) dX10_set_14 (q := 17) rfl (by decide) (fun _ => ?_) (fun q2 => absurd q2 c2)
      refine q_iload_n hJ dX10_set_27 (q := 28) rfl rfl ?_
      refine q_iconst hJ (v := 0) dX10_set_28 (q := 29) rfl (by decide) ?_
      refine q_iconst hJ (v := 1) dX10_set_29 (q := 30) rfl (by decide) ?_
      refine q_callS hJ dX10_set_30 (q := 33) rfl (S_within v 0 1 I R) imX10_within ln_X10_47 rfl rfl rfl (Nat.le_of_ble_eq_true rfl) (by decide) (by decide) rfl rfl (fun rv gv Iv Rv hv => ?_)
      obtain ⟨rfl, rfl, rfl, rfl⟩ := hv
      refine q_istore_n hJ dX10_set_33 (q := 34) rfl (by decide) ?_
      refine q_iload_n hJ dX10_set_34 (q := 35) rfl rfl ?_
      refine q_if_ne hJ (tgt := 42) dX10_set_35 (q := 38) rfl (by decide) (fun c3 => ?_) (fun c3 => ?_)
      · refine q_aload_n hJ dX10_set_42 (q := 43) rfl rfl (by first | rfl | exact isR_rr _) ?_
        refine q_getR hJ dX10_set_43 (q := 46) rfl fl_X10_10 rfl (by first | assumption | exact ka_x) (by assumption) rfl ?_
        refine q_getR hJ dX10_set_46 (q := 49) rfl fl_X10_58 rfl (by first | assumption | exact ka_x) (by assumption) rfl ?_
        refine q_astore hJ dX10_set_49 (q := 51) rfl (by decide) (by first | rfl | exact isR_rr _) ?_
        refine q_iload_n hJ dX10_set_51 (q := 52) rfl rfl ?_
        refine q_if_ne hJ (tgt := 63) dX10_set_52 (q := 55) rfl (by decide) (fun _ => ?_) (fun q3 => absurd q3 c2)
        refine q_aload hJ dX10_set_63 (q := 65) rfl rfl (by first | rfl | exact isR_rr _) ?_
        refine q_getI hJ dX10_set_65 (q := 68) rfl fl_X10_111 rfl hk2 (H.2.2.2.1.1 1 (by decide)) ?_
        refine q_istore hJ dX10_set_68 (q := 70) rfl (by decide) ?_
        refine q_iload hJ dX10_set_70 (q := 72) rfl rfl ?_
        refine q_iload_n hJ dX10_set_72 (q := 73) rfl rfl ?_
        refine q_icmp_ne hJ (tgt := 80) dX10_set_73 (q := 76) rfl (by decide) (fun c4 => ?_) (fun c4 => ?_)
        · refine q_aload_n hJ dX10_set_80 (q := 81) rfl rfl (by first | rfl | exact isR_rr _) ?_
          refine q_getR hJ dX10_set_81 (q := 84) rfl fl_X10_29 rfl (by first | assumption | exact ka_x) (by assumption) rfl ?_
          refine q_aload hJ dX10_set_84 (q := 86) rfl rfl (by first | rfl | exact isR_rr _) ?_
          refine q_callV hJ dX10_set_86 (q := 89) rfl (S_push 2 h hs A I R hFR H.2.2.2.2.2.2.2.1 isB2 (by decide) H.2.2.2.1 H.2.2.2.2.2.2.2.2.2.1) imX2_push ln_X10_71 hk145 (by decide) rfl rfl rfl rfl (Nat.le_of_ble_eq_true rfl) (by decide) (by decide) rfl rfl (fun rv gv Iv Rv hv => ?_)
          obtain ⟨rfl, rfl, hX, hOp, hRp, hFR2⟩ := hv
          have H1 := H.putH hX (pushH_ok H.2.2.2.2.2.2.2.2.2.2.2.2 H.2.2.2.2.2.2.2.2.2.1) hOp hRp hFR2
          have hy0 := hFR2.2.1.1
          have hy2 := hFR2.2.1.2.2.1
          have hf0 := hFR2.2.2.1.1
          have ht0 : Rv 2 0 = some (2 + 1) := (hFR2.1 2 isB2).1
          have ht1 : Rv 2 1 = some (2 + 23) := (hFR2.1 2 isB2).2.1
          refine q_iload_n hJ dX10_set_89 (q := 90) rfl rfl ?_
          refine q_if_ne hJ (tgt := 102) dX10_set_90 (q := 93) rfl (by decide) (fun _ => ?_) (fun q4 => absurd q4 c2)
          refine q_aload hJ dX10_set_102 (q := 104) rfl rfl (by first | rfl | exact isR_rr _) ?_
          refine q_iload_n hJ dX10_set_104 (q := 105) rfl rfl ?_
          refine q_putI hJ dX10_set_105 (q := 108) rfl fl_X10_111 rfl rfl hk2 rfl rfl ?_
          refine q_iload hJ dX10_set_108 (q := 110) rfl rfl ?_
          refine q_iret hM dX10_set_110 rfl rfl ?_
          refine ⟨by unfold setV; rw [if_neg c1, if_neg c2, if_neg c3, if_neg c2, if_neg c4], rfl, Or.inl ⟨⟨c1, by rw [if_neg c2]; exact c3, by rw [if_neg c2]; exact c4⟩, ?_⟩, fun a ha => by rw [up2_other _ _ _ _ (by omega)]; exact hOp a (by omega)⟩
          unfold setA
          rw [if_neg c2]
          exact H1.setg 1 v
        · refine q_sipush hJ (v := (-1006)) dX10_set_76 (q := 79) rfl (by decide) ?_
          refine q_iret hM dX10_set_79 rfl rfl ?_
          exact ⟨by unfold setV; rw [if_neg c1, if_neg c2, if_neg c3, if_neg c2, if_pos c4], rfl, Or.inr ⟨fun z => z.2.2 (by rw [if_neg c2]; exact c4), H⟩, fun a ha => rfl⟩
      · refine q_sipush hJ (v := (-1002)) dX10_set_38 (q := 41) rfl (by decide) ?_
        refine q_iret hM dX10_set_41 rfl rfl ?_
        exact ⟨by unfold setV; rw [if_neg c1, if_neg c2, if_pos c3], rfl, Or.inr ⟨fun z => z.2.1 (by rw [if_neg c2]; exact c3), H⟩, fun a ha => rfl⟩

def okR (A : AS) (x : Int32) : Prop := ¬ (x < 0 ∨ nI (aM A) ≤ x)
theorem RulQ.fld {I I' : MI} {R : MR} {Q : Nat → Nat} {U : Nat → Nat → Int32} {m r : Nat} (h : RulQ I R 2 Q U m) (hr : r < m) {u : Nat → Int32} (h1 : ∀ a, a ≠ Q r → I' a = I a) (h2 : ∀ f, f < 12 → I' (Q r) f = u f) (h3 : u 2 = U r 2) : RulQ I' R 2 Q (fun j => if j = r then u else U j) m := by
  obtain ⟨hU, hC, hO⟩ := h
  have hm := hU.2.1
  have hq := hU.2.2 r (by omega)
  refine ⟨hU.of (by rw [h1 _ (by omega)]), fun j hj f hf => ?_, fun j hj => ?_⟩
  · show I' (Q j) f = (if j = r then u else U j) f
    by_cases e : j = r
    · rw [if_pos e, e]; exact h2 f hf
    · rw [if_neg e, h1 _ (fun z => e ((hq.2.2.2 j (by omega) z)))]; exact hC j hj f hf
  · rw [h1 _ (by omega), hO j hj, show osrt (rkF fun j => if j = r then u else U j) m = osrt (rkF U) m from osrt_congr (fun t ht => by
      show (if t = r then u else U t) 2 = U t 2
      by_cases e : t = r
      · rw [if_pos e, e]; exact h3
      · rw [if_neg e])]
def putU (A : AS) (r : Nat) (v : Int32) : Nat → Nat → Int32 := fun j => if j = r then (fun f => if f = 10 then v else aU A r f) else aU A j
def conU (A : AS) (r : Nat) (f c n : Int32) : Nat → Nat → Int32 := fun j => if j = r then (fun t => if t = 7 then f else if t = 8 then c else if t = 9 then n else aU A r t) else aU A j
def putV (A : AS) (x v : Int32) : Int32 := if x < 0 then -1001 else if nI (aM A) ≤ x then -1001 else if aU A x.toNatClampNeg 10 = v then -1006 else nI (coF (fun j => putU A x.toNatClampNeg v j 10) (aM A))
def putOk (A : AS) (x v : Int32) : Prop := okR A x ∧ ¬ aU A x.toNatClampNeg 10 = v
def conV (A : AS) (x f c n : Int32) : Int32 := if x < 0 then -1001 else if nI (aM A) ≤ x then -1001 else if inR f 0 3 = 0 then -1002 else if inR c 0 5 = 0 then -1002 else if inR n (-999) 999 = 0 then -1002 else x
def conOk (A : AS) (x f c n : Int32) : Prop := okR A x ∧ ¬ inR f 0 3 = 0 ∧ ¬ inR c 0 5 = 0 ∧ ¬ inR n (-999) 999 = 0
theorem okR_not {A : AS} {x : Int32} (h : x < 0 ∨ nI (aM A) ≤ x) {y : Int32} : (if x < 0 then (-1001 : Int32) else if nI (aM A) ≤ x then -1001 else y) = -1001 := by
  rcases h with z | z
  · rw [if_pos z]
  · by_cases zz : x < 0
    · rw [if_pos zz]
    · rw [if_neg zz, if_pos z]
theorem okR_yes {A : AS} {x : Int32} (h : ¬ (x < 0 ∨ nI (aM A) ≤ x)) {y : Int32} : (if x < 0 then (-1001 : Int32) else if nI (aM A) ≤ x then -1001 else y) = y := by
  rw [if_neg (fun z => h (Or.inl z)), if_neg (fun z => h (Or.inr z))]
set_option maxRecDepth 100000 in
set_option maxHeartbeats 400000 in
theorem S_put (x v : Int32) (hv1 : v = 0 ∨ v = 1) (A : AS) (hs : Nat → AS) (h : Nat) (sn : AS) (kp : Bool) (tx : Nat → Int32) (tn : Nat) (B : AS) (I : MI) (R : MR) (H : CYB I R A hs h sn kp tx tn B) : Sp 37 0 0 mX10_put [.ref 0, .int x, .int v] g0 I R (CyP (putV A x v) I (fun I' R' => (putOk A x v ∧ CYB I' R' (setR A (putU A x.toNatClampNeg v) (aM A)) (pushH hs h A) (pushN h) sn kp tx tn B) ∨ (¬ putOk A x v ∧ CYB I' R' A hs h sn kp tx tn B))) := by
  have hFR := H.1
  have hk1 := ka1
  have hk2 := ka_sta isB2
  have hkt := ka_tbl isB2
  have hkr := ka_rls isB2
  have hkg := ka_log isB2
  have hk145 := ka145
  have hk315 := ka315
  have hx0 := hFR.2.1.1
  have hx1 := hFR.2.1.2.1
  have hx2 := hFR.2.1.2.2.1
  have hx4 := hFR.2.1.2.2.2.1
  have hx5 := hFR.2.1.2.2.2.2
  have he0 := hFR.2.2.1.1
  have hs0 : R 2 0 = some (2 + 1) := (hFR.1 2 isB2).1
  have hs1 : R 2 1 = some (2 + 23) := (hFR.1 2 isB2).2.1
  have hs2 : R 2 2 = some (2 + 38) := (hFR.1 2 isB2).2.2.1
  obtain ⟨Q, hU, hC, hO⟩ := id H.2.2.2.1.2.2.1
  have hQ := hU.2.2
  have hm := hU.2.1
  refine Sp.on (by decide +kernel) rfl rfl (fun J hM => ?_)
  have hJ := hM.ok
  refine q_aload_n hJ dX10_put_0 (q := 1) rfl rfl (by first | rfl | exact isR_rr _) ?_
  refine q_getR hJ dX10_put_1 (q := 4) rfl fl_X10_10 rfl (by first | assumption | exact ka_x) (by assumption) rfl ?_
  refine q_getR hJ dX10_put_4 (q := 7) rfl fl_X10_58 rfl (by first | assumption | exact ka_x) (by assumption) rfl ?_
  refine q_getR hJ dX10_put_7 (q := 10) rfl fl_X10_61 rfl (by first | assumption | exact ka_x) (by assumption) rfl ?_
  refine q_iload_n hJ dX10_put_10 (q := 11) rfl rfl ?_
  refine q_callV hJ dX10_put_11 (q := 14) rfl (S_ruleOf 2 _ Q x I R isB2 hFR hU) imX6_ruleOf ln_X10_85 hkr (by decide) rfl rfl rfl rfl (Nat.le_of_ble_eq_true rfl) (by decide) (by decide) rfl rfl (fun rv gv Iv Rv hv => ?_)
  obtain ⟨rfl, rfl, rfl, rfl⟩ := hv
  refine q_astore_n hJ dX10_put_14 (q := 15) rfl (by decide) (by first | rfl | exact isR_rr _) ?_
  refine q_aload_n hJ dX10_put_15 (q := 16) rfl rfl (by first | rfl | exact isR_rr _) ?_
  by_cases c1 : x < 0 ∨ nI (aM A) ≤ x
  · rw [show rowAtF x (aM A) Q = none from by rcases c1 with z | z; exact if_pos z; by_cases zz : x < 0; exact if_pos zz; exact (if_neg zz).trans (if_pos z)]
    refine q_nonnullY hJ (a := 0) dX10_put_16 (q := 19) rfl ?_
    refine q_sipush hJ (v := (-1001)) dX10_put_19 (q := 22) rfl (by decide) ?_
    refine q_iret hM dX10_put_22 rfl rfl ?_
    exact ⟨by unfold putV; exact (okR_not c1).symm ▸ rfl, rfl, Or.inr ⟨fun z => z.1 c1, H⟩, fun a ha => rfl⟩
  · obtain ⟨r, hr31, rfl⟩ := nI_of (fun z => c1 (Or.inl z))
    have hr : r < aM A := (nI_ltI hr31 (by omega)).mp (Int32.not_le.mp (fun z => c1 (Or.inr z)))
    have ecl : (nI r).toNatClampNeg = r := nI_clamp hr31
    rw [rowAtF_in12 hr hm]
    have hqr := hQ r (by omega)
    have hkq := ka_rul isB2 hqr.2.1 hqr.2.2.1
    refine q_nonnullN hJ (tgt := 23) dX10_put_16 (by decide) ?_
    refine q_aload_n hJ dX10_put_23 (q := 24) rfl rfl (by first | rfl | exact isR_rr _) ?_
    refine q_getI hJ dX10_put_24 (q := 27) rfl fl_X10_93 rfl hkq (hC r hr 10 (by decide)) ?_
    refine q_iload_n hJ dX10_put_27 (q := 28) rfl rfl ?_
    refine q_icmp_ne hJ (tgt := 35) dX10_put_28 (q := 31) rfl (by decide) (fun c2 => ?_) (fun c2 => ?_)
    · refine q_aload_n hJ dX10_put_35 (q := 36) rfl rfl (by first | rfl | exact isR_rr _) ?_
      refine q_getR hJ dX10_put_36 (q := 39) rfl fl_X10_29 rfl (by first | assumption | exact ka_x) (by assumption) rfl ?_
      refine q_aload_n hJ dX10_put_39 (q := 40) rfl rfl (by first | rfl | exact isR_rr _) ?_
      refine q_getR hJ dX10_put_40 (q := 43) rfl fl_X10_10 rfl (by first | assumption | exact ka_x) (by assumption) rfl ?_
      refine q_getR hJ dX10_put_43 (q := 46) rfl fl_X10_58 rfl (by first | assumption | exact ka_x) (by assumption) rfl ?_
      refine q_callV hJ dX10_put_46 (q := 49) rfl (S_push 2 h hs A I R hFR H.2.2.2.2.2.2.2.1 isB2 (by decide) H.2.2.2.1 H.2.2.2.2.2.2.2.2.2.1) imX2_push ln_X10_71 hk145 (by decide) rfl rfl rfl rfl (Nat.le_of_ble_eq_true rfl) (by decide) (by decide) rfl rfl (fun rv gv Iv Rv hv => ?_)
      obtain ⟨rfl, rfl, hX, hOp, hRp, hFR2⟩ := hv
      have H1 := H.putH hX (pushH_ok H.2.2.2.2.2.2.2.2.2.2.2.2 H.2.2.2.2.2.2.2.2.2.1) hOp hRp hFR2
      have hy0 := hFR2.2.1.1
      have hy2 := hFR2.2.1.2.2.1
      have hf0 := hFR2.2.2.1.1
      have ht0 : Rv 2 0 = some (2 + 1) := (hFR2.1 2 isB2).1
      have ht1 : Rv 2 1 = some (2 + 23) := (hFR2.1 2 isB2).2.1
      have hqv : RulQ Iv Rv 2 Q (aU A) (aM A) := RulQ.agr ⟨hU, hC, hO⟩ (hOp.agr (by omega)) (hRp.agr (by omega))
      refine q_aload_n hJ dX10_put_49 (q := 50) rfl rfl (by first | rfl | exact isR_rr _) ?_
      refine q_iload_n hJ dX10_put_50 (q := 51) rfl rfl ?_
      refine q_putI hJ dX10_put_51 (q := 54) rfl fl_X10_93 rfl rfl hkq (nz rfl hv1) (by rcases hv1 with rfl | rfl <;> decide) ?_
      refine q_aload_n hJ dX10_put_54 (q := 55) rfl rfl (by first | rfl | exact isR_rr _) ?_
      refine q_getR hJ dX10_put_55 (q := 58) rfl fl_X10_10 rfl (by first | assumption | exact ka_x) (by assumption) rfl ?_
      refine q_getR hJ dX10_put_58 (q := 61) rfl fl_X10_58 rfl (by first | assumption | exact ka_x) (by assumption) rfl ?_
      refine q_getR hJ dX10_put_61 (q := 64) rfl fl_X10_61 rfl (by first | assumption | exact ka_x) (by assumption) rfl ?_
      have hqw : RulQ (up2 Iv (Q r) 10 v) Rv 2 Q (putU A r v) (aM A) := hqv.fld hr (fun a ha => up2_other _ _ _ _ ha) (fun f hf => by
          show (if Q r = Q r ∧ f = 10 then v else Iv (Q r) f) = if f = 10 then v else aU A r f
          by_cases e : f = 10
          · rw [if_pos ⟨rfl, e⟩, if_pos e]
          · rw [if_neg (fun z => e z.2), if_neg e]; exact hqv.2.1 r hr f hf) rfl
      have H2 := H1.putR ⟨Q, hqw⟩ (fun j hj => by
          show (if j = r then (fun f => if f = 10 then v else aU A r f) else aU A j) 10 = 0 ∨ (if j = r then (fun f => if f = 10 then v else aU A r f) else aU A j) 10 = 1
          by_cases e : j = r
          · rw [if_pos e]; exact hv1
          · rw [if_neg e]; exact H.2.2.2.2.2.2.2.2.2.1 j hj) (up2_out Iv v (by omega) (by omega)) (Out.rf _ _ _) hFR2
      refine q_callV hJ dX10_put_64 (q := 67) rfl (S_countOnC 2 _ (putU A r v) _ _ isB2 hFR2 ⟨Q, hqw⟩) imX6_countOn ln_X10_97 hkr (by decide) rfl rfl rfl rfl (Nat.le_of_ble_eq_true rfl) (by decide) (by decide) rfl rfl (fun rv gv Iv Rv hv => ?_)
      obtain ⟨rfl, rfl, rfl, rfl⟩ := hv
      refine q_iret hM dX10_put_67 rfl rfl ?_
      exact ⟨by unfold putV; rw [okR_yes c1, ecl, if_neg c2], rfl, Or.inl ⟨⟨c1, by rw [ecl]; exact c2⟩, by rw [ecl]; exact H2⟩, fun a ha => by rw [up2_other _ _ _ _ (by omega)]; exact hOp a (by omega)⟩
    · refine q_sipush hJ (v := (-1006)) dX10_put_31 (q := 34) rfl (by decide) ?_
      refine q_iret hM dX10_put_34 rfl rfl ?_
      exact ⟨by unfold putV; rw [okR_yes c1, ecl, if_pos c2], rfl, Or.inr ⟨fun z => z.2 (by rw [ecl]; exact c2), H⟩, fun a ha => rfl⟩

set_option maxRecDepth 100000 in
set_option maxHeartbeats 400000 in
theorem S_cond (x f c n : Int32) (A : AS) (hs : Nat → AS) (h : Nat) (sn : AS) (kp : Bool) (tx : Nat → Int32) (tn : Nat) (B : AS) (I : MI) (R : MR) (H : CYB I R A hs h sn kp tx tn B) : Sp 37 0 0 mX10_setCondition [.ref 0, .int x, .int f, .int c, .int n] g0 I R (CyP (conV A x f c n) I (fun I' R' => (conOk A x f c n ∧ CYB I' R' (setR A (conU A x.toNatClampNeg f c n) (aM A)) (pushH hs h A) (pushN h) sn kp tx tn B) ∨ (¬ conOk A x f c n ∧ CYB I' R' A hs h sn kp tx tn B))) := by
  have hFR := H.1
  have hk1 := ka1
  have hk2 := ka_sta isB2
  have hkt := ka_tbl isB2
  have hkr := ka_rls isB2
  have hkg := ka_log isB2
  have hk145 := ka145
  have hk315 := ka315
  have hx0 := hFR.2.1.1
  have hx1 := hFR.2.1.2.1
  have hx2 := hFR.2.1.2.2.1
  have hx4 := hFR.2.1.2.2.2.1
  have hx5 := hFR.2.1.2.2.2.2
  have he0 := hFR.2.2.1.1
  have hs0 : R 2 0 = some (2 + 1) := (hFR.1 2 isB2).1
  have hs1 : R 2 1 = some (2 + 23) := (hFR.1 2 isB2).2.1
  have hs2 : R 2 2 = some (2 + 38) := (hFR.1 2 isB2).2.2.1
  obtain ⟨Q, hU, hC, hO⟩ := id H.2.2.2.1.2.2.1
  have hQ := hU.2.2
  have hm := hU.2.1
  refine Sp.on (by decide +kernel) rfl rfl (fun J hM => ?_)
  have hJ := hM.ok
  refine q_aload_n hJ dX10_setCondition_0 (q := 1) rfl rfl (by first | rfl | exact isR_rr _) ?_
  refine q_getR hJ dX10_setCondition_1 (q := 4) rfl fl_X10_10 rfl (by first | assumption | exact ka_x) (by assumption) rfl ?_
  refine q_getR hJ dX10_setCondition_4 (q := 7) rfl fl_X10_58 rfl (by first | assumption | exact ka_x) (by assumption) rfl ?_
  refine q_getR hJ dX10_setCondition_7 (q := 10) rfl fl_X10_61 rfl (by first | assumption | exact ka_x) (by assumption) rfl ?_
  refine q_iload_n hJ dX10_setCondition_10 (q := 11) rfl rfl ?_
  refine q_callV hJ dX10_setCondition_11 (q := 14) rfl (S_ruleOf 2 _ Q x I R isB2 hFR hU) imX6_ruleOf ln_X10_85 hkr (by decide) rfl rfl rfl rfl (Nat.le_of_ble_eq_true rfl) (by decide) (by decide) rfl rfl (fun rv gv Iv Rv hv => ?_)
  obtain ⟨rfl, rfl, rfl, rfl⟩ := hv
  refine q_astore hJ dX10_setCondition_14 (q := 16) rfl (by decide) (by first | rfl | exact isR_rr _) ?_
  refine q_aload hJ dX10_setCondition_16 (q := 18) rfl rfl (by first | rfl | exact isR_rr _) ?_
  by_cases c1 : x < 0 ∨ nI (aM A) ≤ x
  · rw [show rowAtF x (aM A) Q = none from by rcases c1 with z | z; exact if_pos z; by_cases zz : x < 0; exact if_pos zz; exact (if_neg zz).trans (if_pos z)]
    refine q_nonnullY hJ (a := 0) dX10_setCondition_18 (q := 21) rfl ?_
    refine q_sipush hJ (v := (-1001)) dX10_setCondition_21 (q := 24) rfl (by decide) ?_
    refine q_iret hM dX10_setCondition_24 rfl rfl ?_
    exact ⟨by unfold conV; exact (okR_not c1).symm ▸ rfl, rfl, Or.inr ⟨fun z => z.1 c1, H⟩, fun a ha => rfl⟩
  · obtain ⟨r, hr31, rfl⟩ := nI_of (fun z => c1 (Or.inl z))
    have hr : r < aM A := (nI_ltI hr31 (by omega)).mp (Int32.not_le.mp (fun z => c1 (Or.inr z)))
    have ecl : (nI r).toNatClampNeg = r := nI_clamp hr31
    rw [rowAtF_in12 hr hm]
    have hqr := hQ r (by omega)
    have hkq := ka_rul isB2 hqr.2.1 hqr.2.2.1
    refine q_nonnullN hJ (tgt := 25) dX10_setCondition_18 (by decide) ?_
    refine q_iload_n hJ dX10_setCondition_25 (q := 26) rfl rfl ?_
    refine q_iconst hJ (v := 0) dX10_setCondition_26 (q := 27) rfl (by decide) ?_
    refine q_iconst hJ (v := 3) dX10_setCondition_27 (q := 28) rfl (by decide) ?_
    refine q_callS hJ dX10_setCondition_28 (q := 31) rfl (S_within f 0 3 I R) imX10_within ln_X10_47 rfl rfl rfl (Nat.le_of_ble_eq_true rfl) (by decide) (by decide) rfl rfl (fun rv gv Iv Rv hv => ?_)
    obtain ⟨rfl, rfl, rfl, rfl⟩ := hv
    refine q_if_eq hJ (tgt := 51) dX10_setCondition_31 (q := 34) rfl (by decide) (fun c2 => ?_) (fun c2 => ?_)
    · refine q_sipush hJ (v := (-1002)) dX10_setCondition_51 (q := 54) rfl (by decide) ?_
      refine q_iret hM dX10_setCondition_54 rfl rfl ?_
      first
        | exact ⟨by unfold conV; rw [okR_yes c1, if_pos c2], rfl, Or.inr ⟨fun z => z.2.1 c2, H⟩, fun a ha => rfl⟩
        | exact ⟨by unfold conV; rw [okR_yes c1, if_neg c2, if_pos c3], rfl, Or.inr ⟨fun z => z.2.2.1 c3, H⟩, fun a ha => rfl⟩
        | exact ⟨by unfold conV; rw [okR_yes c1, if_neg c2, if_neg c3, if_pos c4], rfl, Or.inr ⟨fun z => z.2.2.2 c4, H⟩, fun a ha => rfl⟩
    · refine q_iload_n hJ dX10_setCondition_34 (q := 35) rfl rfl ?_
      refine q_iconst hJ (v := 0) dX10_setCondition_35 (q := 36) rfl (by decide) ?_
      refine q_iconst hJ (v := 5) dX10_setCondition_36 (q := 37) rfl (by decide) ?_
      refine q_callS hJ dX10_setCondition_37 (q := 40) rfl (S_within c 0 5 I R) imX10_within ln_X10_47 rfl rfl rfl (Nat.le_of_ble_eq_true rfl) (by decide) (by decide) rfl rfl (fun rv gv Iv Rv hv => ?_)
      obtain ⟨rfl, rfl, rfl, rfl⟩ := hv
      refine q_if_eq hJ (tgt := 51) dX10_setCondition_40 (q := 43) rfl (by decide) (fun c3 => ?_) (fun c3 => ?_)
      · refine q_sipush hJ (v := (-1002)) dX10_setCondition_51 (q := 54) rfl (by decide) ?_
        refine q_iret hM dX10_setCondition_54 rfl rfl ?_
        first
          | exact ⟨by unfold conV; rw [okR_yes c1, if_pos c2], rfl, Or.inr ⟨fun z => z.2.1 c2, H⟩, fun a ha => rfl⟩
          | exact ⟨by unfold conV; rw [okR_yes c1, if_neg c2, if_pos c3], rfl, Or.inr ⟨fun z => z.2.2.1 c3, H⟩, fun a ha => rfl⟩
          | exact ⟨by unfold conV; rw [okR_yes c1, if_neg c2, if_neg c3, if_pos c4], rfl, Or.inr ⟨fun z => z.2.2.2 c4, H⟩, fun a ha => rfl⟩
      · refine q_iload hJ dX10_setCondition_43 (q := 45) rfl rfl ?_
        refine q_callS hJ dX10_setCondition_45 (q := 48) rfl (S_isValue n I R) imX10_isValue ln_X10_55 rfl rfl rfl (Nat.le_of_ble_eq_true rfl) (by decide) (by decide) rfl rfl (fun rv gv Iv Rv hv => ?_)
        obtain ⟨rfl, rfl, rfl, rfl⟩ := hv
        refine q_if_ne hJ (tgt := 55) dX10_setCondition_48 (q := 51) rfl (by decide) (fun c4 => ?_) (fun c4 => ?_)
        · refine q_aload_n hJ dX10_setCondition_55 (q := 56) rfl rfl (by first | rfl | exact isR_rr _) ?_
          refine q_getR hJ dX10_setCondition_56 (q := 59) rfl fl_X10_29 rfl (by first | assumption | exact ka_x) (by assumption) rfl ?_
          refine q_aload_n hJ dX10_setCondition_59 (q := 60) rfl rfl (by first | rfl | exact isR_rr _) ?_
          refine q_getR hJ dX10_setCondition_60 (q := 63) rfl fl_X10_10 rfl (by first | assumption | exact ka_x) (by assumption) rfl ?_
          refine q_getR hJ dX10_setCondition_63 (q := 66) rfl fl_X10_58 rfl (by first | assumption | exact ka_x) (by assumption) rfl ?_
          refine q_callV hJ dX10_setCondition_66 (q := 69) rfl (S_push 2 h hs A I R hFR H.2.2.2.2.2.2.2.1 isB2 (by decide) H.2.2.2.1 H.2.2.2.2.2.2.2.2.2.1) imX2_push ln_X10_71 hk145 (by decide) rfl rfl rfl rfl (Nat.le_of_ble_eq_true rfl) (by decide) (by decide) rfl rfl (fun rv gv Iv Rv hv => ?_)
          obtain ⟨rfl, rfl, hX, hOp, hRp, hFR2⟩ := hv
          have H1 := H.putH hX (pushH_ok H.2.2.2.2.2.2.2.2.2.2.2.2 H.2.2.2.2.2.2.2.2.2.1) hOp hRp hFR2
          have hy0 := hFR2.2.1.1
          have hy2 := hFR2.2.1.2.2.1
          have hf0 := hFR2.2.2.1.1
          have ht0 : Rv 2 0 = some (2 + 1) := (hFR2.1 2 isB2).1
          have ht1 : Rv 2 1 = some (2 + 23) := (hFR2.1 2 isB2).2.1
          have hqv : RulQ Iv Rv 2 Q (aU A) (aM A) := RulQ.agr ⟨hU, hC, hO⟩ (hOp.agr (by omega)) (hRp.agr (by omega))
          refine q_aload hJ dX10_setCondition_69 (q := 71) rfl rfl (by first | rfl | exact isR_rr _) ?_
          refine q_iload_n hJ dX10_setCondition_71 (q := 72) rfl rfl ?_
          refine q_iload_n hJ dX10_setCondition_72 (q := 73) rfl rfl ?_
          refine q_iload hJ dX10_setCondition_73 (q := 75) rfl rfl ?_
          refine q_callV hJ dX10_setCondition_75 (q := 78) rfl (S_demand (Q r) f c n _ _ hkq) imX5_demand ln_X10_89 hkq (by decide) rfl rfl rfl rfl (Nat.le_of_ble_eq_true rfl) (by decide) (by decide) rfl rfl (fun rv gv Iv Rv hv => ?_)
          obtain ⟨rfl, rfl, rfl, rfl⟩ := hv
          have hoth : ∀ a, a ≠ Q r → ruD Iv (Q r) f c n a = Iv a := fun a ha => by
              unfold ruD
              rw [up2_other _ _ _ _ ha, up2_other _ _ _ _ ha, up2_other _ _ _ _ ha]
          have hqw : RulQ (ruD Iv (Q r) f c n) Rv 2 Q (conU A r f c n) (aM A) := hqv.fld hr hoth (fun t ht => by
              show up2 (up2 (up2 Iv (Q r) 7 f) (Q r) 8 c) (Q r) 9 n (Q r) t = if t = 7 then f else if t = 8 then c else if t = 9 then n else aU A r t
              rw [up2_app, up2_app, up2_app]
              by_cases e9 : t = 9
              · rw [if_pos ⟨rfl, e9⟩, if_neg (by omega), if_neg (by omega), if_pos e9]
              · rw [if_neg (fun z => e9 z.2)]
                by_cases e8 : t = 8
                · rw [if_pos ⟨rfl, e8⟩, if_neg (by omega), if_pos e8]
                · rw [if_neg (fun z => e8 z.2)]
                  by_cases e7 : t = 7
                  · rw [if_pos ⟨rfl, e7⟩, if_pos e7]
                  · rw [if_neg (fun z => e7 z.2), if_neg e7, if_neg e8, if_neg e9]; exact hqv.2.1 r hr t ht) rfl
          have H2 := H1.putR ⟨Q, hqw⟩ (fun j hj => by
              have hj0 := H.2.2.2.2.2.2.2.2.2.1 j hj
              show (if j = r then (fun t => if t = 7 then f else if t = 8 then c else if t = 9 then n else aU A r t) else aU A j) 10 = 0 ∨ (if j = r then (fun t => if t = 7 then f else if t = 8 then c else if t = 9 then n else aU A r t) else aU A j) 10 = 1
              by_cases e : j = r
              · rw [if_pos e]; rw [e] at hj0; exact hj0
              · rw [if_neg e]; exact hj0) (fun a ha => hoth a (by omega)) (Out.rf _ _ _) hFR2
          refine q_iload_n hJ dX10_setCondition_78 (q := 79) rfl rfl ?_
          refine q_iret hM dX10_setCondition_79 rfl rfl ?_
          exact ⟨by unfold conV; rw [okR_yes c1, if_neg c2, if_neg c3, if_neg c4], rfl, Or.inl ⟨⟨c1, c2, c3, c4⟩, by rw [ecl]; exact H2⟩, fun a ha => by rw [hoth a (by omega)]; exact hOp a (by omega)⟩
        · refine q_sipush hJ (v := (-1002)) dX10_setCondition_51 (q := 54) rfl (by decide) ?_
          refine q_iret hM dX10_setCondition_54 rfl rfl ?_
          first
            | exact ⟨by unfold conV; rw [okR_yes c1, if_pos c2], rfl, Or.inr ⟨fun z => z.2.1 c2, H⟩, fun a ha => rfl⟩
            | exact ⟨by unfold conV; rw [okR_yes c1, if_neg c2, if_pos c3], rfl, Or.inr ⟨fun z => z.2.2.1 c3, H⟩, fun a ha => rfl⟩
            | exact ⟨by unfold conV; rw [okR_yes c1, if_neg c2, if_neg c3, if_pos c4], rfl, Or.inr ⟨fun z => z.2.2.2 c4, H⟩, fun a ha => rfl⟩

