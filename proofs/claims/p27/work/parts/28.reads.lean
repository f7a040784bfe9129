/-! READS; what would be; history, snapshot, text -/
def fieldF (A : AS) (k f : Int32) : Int32 := match fK A k with
  | none => -1001
  | some i => if inR f 0 2 = 0 then -1002 else rowF (aK A i) f
def keyF (A : AS) (x : Int32) : Int32 := if x < 0 then -1002 else if nI (aN A) ≤ x then -1006 else aK A x.toNatClampNeg 0
def ruleF (A : AS) (x w : Int32) : Int32 := if x < 0 then -1001 else if nI (aM A) ≤ x then -1001 else tellF (aU A x.toNatClampNeg) w
def ordF (A : AS) (e m p : Int32) : Int32 := if inR e 0 2 = 0 then -1002 else if inR m 0 1 = 0 then -1002 else if p < 0 then -1002 else noI (amF (fun r => aU A r 0 = e ∧ aU A r 1 = m) (odA A) p 0 (aM A) 0)
def firF (A : AS) (x w : Int32) : Int32 := if x < 0 then -1002 else if inR w 0 2 = 0 then -1002 else if nI (aR A) ≤ x then -1006 else aC A x.toNatClampNeg (if w = 0 then 0 else if w = 1 then 1 else 2)
def totF (A : AS) (h tn : Nat) (w : Int32) : Int32 := if w = 10 then nI h else if w = 11 then nI tn else stTell A w
theorem amF_congr {p q : Nat → Prop} [DecidablePred p] [DecidablePred q] {od : Nat → Nat} {w : Int32} {j k c : Nat} (h : ∀ t, j ≤ t → t < j + k → (p (od t) ↔ q (od t))) : amF p od w j k c = amF q od w j k c := by
  induction k generalizing j c with
  | zero => rfl
  | succ k ih =>
    unfold amF
    have h0 := h j (Nat.le_refl _) (by omega)
    by_cases hp : p (od j)
    · rw [if_pos hp, if_pos (h0.mp hp), ih (fun t h1 h2 => h t (by omega) (by omega))]
    · rw [if_neg hp, if_neg (fun z => hp (h0.mpr z)), ih (fun t h1 h2 => h t (by omega) (by omega))]
theorem inR_ne {x lo hi : Int32} (h : ¬ inR x lo hi = 0) : inR x lo hi = 1 := (inR_01 x lo hi).resolve_left h
theorem inR_iff {x lo hi : Int32} (h : ¬ inR x lo hi = 0) : ¬ x < lo ∧ ¬ hi < x := by
  unfold inR at h
  split at h
  · exact absurd rfl h
  · split at h
    · exact absurd rfl h
    · rename_i a b; exact ⟨a, b⟩
set_option maxRecDepth 100000 in
set_option maxHeartbeats 400000 in
theorem S_field (k f : Int32) (A : AS) (hs : Nat → AS) (h : Nat) (sn : AS) (kp : Bool) (tx : Nat → Int32) (tn : Nat) (B : AS) (I : MI) (R : MR) (H : CYB I R A hs h sn kp tx tn B) : Sp 37 0 0 mX10_field [.ref 0, .int k, .int f] g0 I R (Rt (some (.int (fieldF A k f))) g0 I R) := by
  have hFR := H.1
  have hk1 := ka1
  have hk2 := ka_sta isB2
  have hkt := ka_tbl isB2
  have hkr := ka_rls isB2
  have hkg := ka_log isB2
  have hk145 := ka145
  have hk315 := ka315
  have hx0 := hFR.2.1.1
  have hx1 := hFR.2.1.2.1
  have hx2 := hFR.2.1.2.2.1
  have hx4 := hFR.2.1.2.2.2.1
  have hx5 := hFR.2.1.2.2.2.2
  have he0 := hFR.2.2.1.1
  have hs0 : R 2 0 = some (2 + 1) := (hFR.1 2 isB2).1
  have hs1 : R 2 1 = some (2 + 23) := (hFR.1 2 isB2).2.1
  have hs2 : R 2 2 = some (2 + 38) := (hFR.1 2 isB2).2.2.1
  obtain ⟨P, hS, hK⟩ := id H.2.2.2.1.2.1
  have hP := hS.2.2
  have hn := hS.2.1
  refine Sp.on (by decide +kernel) rfl rfl (fun J hM => ?_)
  have hJ := hM.ok
  refine q_aload_n hJ dX10_field_0 (q := 1) rfl rfl (by first | rfl | exact isR_rr _) ?_
  refine q_getR hJ dX10_field_1 (q := 4) rfl fl_X10_10 rfl (by first | assumption | exact ka_x) (by assumption) rfl ?_
  refine q_getR hJ dX10_field_4 (q := 7) rfl fl_X10_58 rfl (by first | assumption | exact ka_x) (by assumption) rfl ?_
  refine q_getR hJ dX10_field_7 (q := 10) rfl fl_X10_159 rfl (by first | assumption | exact ka_x) (by assumption) rfl ?_
  refine q_iload_n hJ dX10_field_10 (q := 11) rfl rfl ?_
  refine q_callV hJ dX10_field_11 (q := 14) rfl (S_rowOf 2 _ P k I R isB2 hFR hS) imX8_rowOf ln_X10_166 hkt (by decide) rfl rfl rfl rfl (Nat.le_of_ble_eq_true rfl) (by decide) (by decide) rfl rfl (fun rv gv Iv Rv hv => ?_)
  obtain ⟨rfl, rfl, rfl, rfl⟩ := hv
  rw [tab_fnd hK k]
  refine q_astore_n hJ dX10_field_14 (q := 15) rfl (by decide) (by first | rfl | exact isR_rr _) ?_
  refine q_aload_n hJ dX10_field_15 (q := 16) rfl rfl (by first | rfl | exact isR_rr _) ?_
  have ep : fieldF A k f = (match fndF (fun j => aK A j 0 = k) 0 (aN A) with | none => -1001 | some i => if inR f 0 2 = 0 then -1002 else rowF (aK A i) f) := rfl
  rcases hf : fndF (fun j => aK A j 0 = k) 0 (aN A) with _ | i
  · refine q_nonnullY hJ (a := 0) dX10_field_16 (q := 19) rfl ?_
    refine q_sipush hJ (v := (-1001)) dX10_field_19 (q := 22) rfl (by decide) ?_
    refine q_iret hM dX10_field_22 rfl rfl ?_
    rw [hf] at ep
    exact ⟨by rw [ep], rfl, rfl, rfl⟩
  · refine q_nonnullN hJ (tgt := 23) dX10_field_16 (by decide) ?_
    have hin : i < aN A := by have := (fndF_some hf).2.1; omega
    have hpi := hP i (by omega)
    have hki := ka_row isB2 hpi.2.1 hpi.2.2.1
    refine q_iload_n hJ dX10_field_23 (q := 24) rfl rfl ?_
    refine q_iconst hJ (v := 0) dX10_field_24 (q := 25) rfl (by decide) ?_
    refine q_iconst hJ (v := 2) dX10_field_25 (q := 26) rfl (by decide) ?_
    refine q_callS hJ dX10_field_26 (q := 29) rfl (S_within f 0 2 I R) imX10_within ln_X10_47 rfl rfl rfl (Nat.le_of_ble_eq_true rfl) (by decide) (by decide) rfl rfl (fun rv gv Iv Rv hv => ?_)
    obtain ⟨rfl, rfl, rfl, rfl⟩ := hv
    refine q_if_eq hJ (tgt := 40) dX10_field_29 (q := 32) rfl (by decide) (fun c1 => ?_) (fun c1 => ?_)
    · refine q_sipush hJ (v := (-1002)) dX10_field_40 (q := 43) rfl (by decide) ?_
      refine q_iret hM dX10_field_43 rfl rfl ?_
      rw [hf] at ep
      exact ⟨by rw [ep]; simp [c1], rfl, rfl, rfl⟩
    · refine q_aload_n hJ dX10_field_32 (q := 33) rfl rfl (by first | rfl | exact isR_rr _) ?_
      refine q_iload_n hJ dX10_field_33 (q := 34) rfl rfl ?_
      refine q_callV hJ dX10_field_34 (q := 37) rfl (S_valueOf (P i) f I R hki) imX4_valueOf ln_X10_170 hki (by decide) rfl rfl rfl rfl (Nat.le_of_ble_eq_true rfl) (by decide) (by decide) rfl rfl (fun rv gv Iv Rv hv => ?_)
      obtain ⟨rfl, rfl, rfl, rfl⟩ := hv
      rw [rowF_congr (hK i hin) f]
      refine q_goto hJ (tgt := 43) dX10_field_37 (by decide) ?_
      refine q_iret hM dX10_field_43 rfl rfl ?_
      rw [hf] at ep
      exact ⟨by rw [ep]; simp [c1], rfl, rfl, rfl⟩

set_option maxRecDepth 100000 in
set_option maxHeartbeats 400000 in
theorem S_keyAt (x : Int32) (A : AS) (hs : Nat → AS) (h : Nat) (sn : AS) (kp : Bool) (tx : Nat → Int32) (tn : Nat) (B : AS) (I : MI) (R : MR) (H : CYB I R A hs h sn kp tx tn B) : Sp 37 0 0 mX10_keyAt [.ref 0, .int x] g0 I R (Rt (some (.int (keyF A x))) g0 I R) := by
  have hFR := H.1
  have hk1 := ka1
  have hk2 := ka_sta isB2
  have hkt := ka_tbl isB2
  have hkr := ka_rls isB2
  have hkg := ka_log isB2
  have hk145 := ka145
  have hk315 := ka315
  have hx0 := hFR.2.1.1
  have hx1 := hFR.2.1.2.1
  have hx2 := hFR.2.1.2.2.1
  have hx4 := hFR.2.1.2.2.2.1
  have hx5 := hFR.2.1.2.2.2.2
  have he0 := hFR.2.2.1.1
  have hs0 : R 2 0 = some (2 + 1) := (hFR.1 2 isB2).1
  have hs1 : R 2 1 = some (2 + 23) := (hFR.1 2 isB2).2.1
  have hs2 : R 2 2 = some (2 + 38) := (hFR.1 2 isB2).2.2.1
  obtain ⟨P, hS, hK⟩ := id H.2.2.2.1.2.1
  have hP := hS.2.2
  have hn := hS.2.1
  refine Sp.on (by decide +kernel) rfl rfl (fun J hM => ?_)
  have hJ := hM.ok
  refine q_iload_n hJ dX10_keyAt_0 (q := 1) rfl rfl ?_
  refine q_if_ge hJ (tgt := 8) dX10_keyAt_1 (q := 4) rfl (by decide) (fun c1 => ?_) (fun c1 => ?_)
  · refine q_aload_n hJ dX10_keyAt_8 (q := 9) rfl rfl (by first | rfl | exact isR_rr _) ?_
    refine q_getR hJ dX10_keyAt_9 (q := 12) rfl fl_X10_10 rfl (by first | assumption | exact ka_x) (by assumption) rfl ?_
    refine q_getR hJ dX10_keyAt_12 (q := 15) rfl fl_X10_58 rfl (by first | assumption | exact ka_x) (by assumption) rfl ?_
    refine q_getR hJ dX10_keyAt_15 (q := 18) rfl fl_X10_159 rfl (by first | assumption | exact ka_x) (by assumption) rfl ?_
    refine q_iload_n hJ dX10_keyAt_18 (q := 19) rfl rfl ?_
    refine q_callV hJ dX10_keyAt_19 (q := 22) rfl (S_rowAt 2 _ P x I R isB2 hFR hS) imX8_rowAt ln_X10_175 hkt (by decide) rfl rfl rfl rfl (Nat.le_of_ble_eq_true rfl) (by decide) (by decide) rfl rfl (fun rv gv Iv Rv hv => ?_)
    obtain ⟨rfl, rfl, rfl, rfl⟩ := hv
    have hx0n : ¬ x < 0 := Int32.not_lt.mpr c1
    have er : rowAtF x (aN A) P = if nI (aN A) ≤ x then none else some (P x.toNatClampNeg) := if_neg hx0n
    refine q_astore_n hJ dX10_keyAt_22 (q := 23) rfl (by decide) (by first | rfl | exact isR_rr _) ?_
    refine q_aload_n hJ dX10_keyAt_23 (q := 24) rfl rfl (by first | rfl | exact isR_rr _) ?_
    rw [er]
    by_cases c2 : nI (aN A) ≤ x
    · rw [if_pos c2]
      refine q_nonnullY hJ (a := 0) dX10_keyAt_24 (q := 27) rfl ?_
      refine q_sipush hJ (v := (-1006)) dX10_keyAt_27 (q := 30) rfl (by decide) ?_
      refine q_goto hJ (tgt := 37) dX10_keyAt_30 (by decide) ?_
      refine q_iret hM dX10_keyAt_37 rfl rfl ?_
      first
        | exact ⟨by rw [keyF, if_neg hx0n, if_pos c2], rfl, rfl, rfl⟩
        | exact ⟨by rw [keyF, if_neg hx0n, if_neg c2, ecl], rfl, rfl, rfl⟩
    · rw [if_neg c2]
      refine q_nonnullN hJ (tgt := 33) dX10_keyAt_24 (by decide) ?_
      obtain ⟨j, hj, rfl⟩ := nI_of hx0n
      have hjn : j < aN A := (nI_ltI hj (by omega)).mp (Int32.not_le.mp c2)
      have ecl : (nI j).toNatClampNeg = j := nI_clamp hj
      refine q_aload_n hJ dX10_keyAt_33 (q := 34) rfl rfl (by first | rfl | exact isR_rr _) ?_
      refine q_getI hJ dX10_keyAt_34 (q := 37) rfl fl_X10_178 rfl (ka_row isB2 (hP _ (by rw [ecl]; omega)).2.1 (hP _ (by rw [ecl]; omega)).2.2.1) (show _ = aK A j 0 from by rw [ecl]; exact hK j hjn 0 (by decide)) ?_
      refine q_iret hM dX10_keyAt_37 rfl rfl ?_
      first
        | exact ⟨by rw [keyF, if_neg hx0n, if_pos c2], rfl, rfl, rfl⟩
        | exact ⟨by rw [keyF, if_neg hx0n, if_neg c2, ecl], rfl, rfl, rfl⟩
  · refine q_sipush hJ (v := (-1002)) dX10_keyAt_4 (q := 7) rfl (by decide) ?_
    refine q_iret hM dX10_keyAt_7 rfl rfl ?_
    exact ⟨by rw [keyF, if_pos (Int32.not_le.mp c1)], rfl, rfl, rfl⟩

theorem tellF_congr {i j : Nat → Int32} (h : ∀ f, f < 12 → i f = j f) (w : Int32) : tellF i w = tellF j w := by
  unfold tellF
  rw [h 0 (by decide), h 1 (by decide), h 2 (by decide), h 3 (by decide), h 4 (by decide), h 5 (by decide), h 6 (by decide), h 7 (by decide), h 8 (by decide), h 9 (by decide), h 10 (by decide), h 11 (by decide)]
set_option maxRecDepth 100000 in
set_option maxHeartbeats 400000 in
theorem S_rule (x w : Int32) (A : AS) (hs : Nat → AS) (h : Nat) (sn : AS) (kp : Bool) (tx : Nat → Int32) (tn : Nat) (B : AS) (I : MI) (R : MR) (H : CYB I R A hs h sn kp tx tn B) : Sp 37 0 0 mX10_rule [.ref 0, .int x, .int w] g0 I R (Rt (some (.int (ruleF A x w))) g0 I R) := by
  have hFR := H.1
  have hk1 := ka1
  have hk2 := ka_sta isB2
  have hkt := ka_tbl isB2
  have hkr := ka_rls isB2
  have hkg := ka_log isB2
  have hk145 := ka145
  have hk315 := ka315
  have hx0 := hFR.2.1.1
  have hx1 := hFR.2.1.2.1
  have hx2 := hFR.2.1.2.2.1
  have hx4 := hFR.2.1.2.2.2.1
  have hx5 := hFR.2.1.2.2.2.2
  have he0 := hFR.2.2.1.1
  have hs0 : R 2 0 = some (2 + 1) := (hFR.1 2 isB2).1
  have hs1 : R 2 1 = some (2 + 23) := (hFR.1 2 isB2).2.1
  have hs2 : R 2 2 = some (2 + 38) := (hFR.1 2 isB2).2.2.1
  obtain ⟨Q, hU, hC, hO⟩ := id H.2.2.2.1.2.2.1
  have hQ := hU.2.2
  have hm := hU.2.1
  refine Sp.on (by decide +kernel) rfl rfl (fun J hM => ?_)
  have hJ := hM.ok
  refine q_aload_n hJ dX10_rule_0 (q := 1) rfl rfl (by first | rfl | exact isR_rr _) ?_
  refine q_getR hJ dX10_rule_1 (q := 4) rfl fl_X10_10 rfl (by first | assumption | exact ka_x) (by assumption) rfl ?_
  refine q_getR hJ dX10_rule_4 (q := 7) rfl fl_X10_58 rfl (by first | assumption | exact ka_x) (by assumption) rfl ?_
  refine q_getR hJ dX10_rule_7 (q := 10) rfl fl_X10_61 rfl (by first | assumption | exact ka_x) (by assumption) rfl ?_
  refine q_iload_n hJ dX10_rule_10 (q := 11) rfl rfl ?_
  refine q_callV hJ dX10_rule_11 (q := 14) rfl (S_ruleOf 2 _ Q x I R isB2 hFR hU) imX6_ruleOf ln_X10_85 hkr (by decide) rfl rfl rfl rfl (Nat.le_of_ble_eq_true rfl) (by decide) (by decide) rfl rfl (fun rv gv Iv Rv hv => ?_)
  obtain ⟨rfl, rfl, rfl, rfl⟩ := hv
  refine q_astore_n hJ dX10_rule_14 (q := 15) rfl (by decide) (by first | rfl | exact isR_rr _) ?_
  refine q_aload_n hJ dX10_rule_15 (q := 16) rfl rfl (by first | rfl | exact isR_rr _) ?_
  by_cases c1 : x < 0 ∨ nI (aM A) ≤ x
  · rw [show rowAtF x (aM A) Q = none from by rcases c1 with z | z; exact if_pos z; by_cases zz : x < 0; exact if_pos zz; exact (if_neg zz).trans (if_pos z)]
    refine q_nonnullY hJ (a := 0) dX10_rule_16 (q := 19) rfl ?_
    refine q_sipush hJ (v := (-1001)) dX10_rule_19 (q := 22) rfl (by decide) ?_
    refine q_goto hJ (tgt := 30) dX10_rule_22 (by decide) ?_
    refine q_iret hM dX10_rule_30 rfl rfl ?_
    first
      | exact ⟨by rw [ruleF]; rcases c1 with z | z; rw [if_pos z]; by_cases zz : x < 0; rw [if_pos zz]; rw [if_neg zz, if_pos z], rfl, rfl, rfl⟩
      | exact ⟨by rw [ruleF, if_neg (fun z => c1 (Or.inl z)), if_neg (fun z => c1 (Or.inr z)), ecl, show tellF (I (Q r)) w = tellF (aU A r) w from tellF_congr (hC r hr) w], rfl, rfl, rfl⟩
  · obtain ⟨r, hr31, rfl⟩ := nI_of (fun z => c1 (Or.inl z))
    have hr : r < aM A := (nI_ltI hr31 (by omega)).mp (Int32.not_le.mp (fun z => c1 (Or.inr z)))
    have ecl : (nI r).toNatClampNeg = r := nI_clamp hr31
    rw [rowAtF_in12 hr hm]
    have hqr := hQ r (by omega)
    have hkq := ka_rul isB2 hqr.2.1 hqr.2.2.1
    refine q_nonnullN hJ (tgt := 25) dX10_rule_16 (by decide) ?_
    refine q_aload_n hJ dX10_rule_25 (q := 26) rfl rfl (by first | rfl | exact isR_rr _) ?_
    refine q_iload_n hJ dX10_rule_26 (q := 27) rfl rfl ?_
    refine q_callV hJ dX10_rule_27 (q := 30) rfl (S_ruleTell (Q r) w I R hkq) imX5_tell ln_X10_181 hkq (by decide) rfl rfl rfl rfl (Nat.le_of_ble_eq_true rfl) (by decide) (by decide) rfl rfl (fun rv gv Iv Rv hv => ?_)
    obtain ⟨rfl, rfl, rfl, rfl⟩ := hv
    refine q_iret hM dX10_rule_30 rfl rfl ?_
    first
      | exact ⟨by rw [ruleF]; rcases c1 with z | z; rw [if_pos z]; by_cases zz : x < 0; rw [if_pos zz]; rw [if_neg zz, if_pos z], rfl, rfl, rfl⟩
      | exact ⟨by rw [ruleF, if_neg (fun z => c1 (Or.inl z)), if_neg (fun z => c1 (Or.inr z)), ecl, show tellF (I (Q r)) w = tellF (aU A r) w from tellF_congr (hC r hr) w], rfl, rfl, rfl⟩

set_option maxRecDepth 100000 in
set_option maxHeartbeats 400000 in
theorem S_order (e m p : Int32) (A : AS) (hs : Nat → AS) (h : Nat) (sn : AS) (kp : Bool) (tx : Nat → Int32) (tn : Nat) (B : AS) (I : MI) (R : MR) (H : CYB I R A hs h sn kp tx tn B) : Sp 37 0 0 mX10_order [.ref 0, .int e, .int m, .int p] g0 I R (Rt (some (.int (ordF A e m p))) g0 I R) := by
  have hFR := H.1
  have hk1 := ka1
  have hk2 := ka_sta isB2
  have hkt := ka_tbl isB2
  have hkr := ka_rls isB2
  have hkg := ka_log isB2
  have hk145 := ka145
  have hk315 := ka315
  have hx0 := hFR.2.1.1
  have hx1 := hFR.2.1.2.1
  have hx2 := hFR.2.1.2.2.1
  have hx4 := hFR.2.1.2.2.2.1
  have hx5 := hFR.2.1.2.2.2.2
  have he0 := hFR.2.2.1.1
  have hs0 : R 2 0 = some (2 + 1) := (hFR.1 2 isB2).1
  have hs1 : R 2 1 = some (2 + 23) := (hFR.1 2 isB2).2.1
  have hs2 : R 2 2 = some (2 + 38) := (hFR.1 2 isB2).2.2.1
  obtain ⟨Q, hU, hC, hO⟩ := id H.2.2.2.1.2.2.1
  have hQ := hU.2.2
  have hm := hU.2.1
  refine Sp.on (by decide +kernel) rfl rfl (fun J hM => ?_)
  have hJ := hM.ok
  refine q_iload_n hJ dX10_order_0 (q := 1) rfl rfl ?_
  refine q_callS hJ dX10_order_1 (q := 4) rfl (S_isEvent e I R) imX10_isEvent ln_X10_40 rfl rfl rfl (Nat.le_of_ble_eq_true rfl) (by decide) (by decide) rfl rfl (fun rv gv Iv Rv hv => ?_)
  obtain ⟨rfl, rfl, rfl, rfl⟩ := hv
  refine q_if_eq hJ (tgt := 18) dX10_order_4 (q := 7) rfl (by decide) (fun c1 => ?_) (fun c1 => ?_)
  · refine q_sipush hJ (v := (-1002)) dX10_order_18 (q := 21) rfl (by decide) ?_
    refine q_iret hM dX10_order_21 rfl rfl ?_
    exact ⟨by
      unfold ordF
      by_cases z1 : inR e 0 2 = 0
      · rw [if_pos z1]
      · rw [if_neg z1]
        by_cases z2 : inR m 0 1 = 0
        · rw [if_pos z2]
        · rw [if_neg z2, if_pos]
          first | exact Int32.not_le.mp c3 | exact absurd c1 z1 | exact absurd c2 z2, rfl, rfl, rfl⟩
  · refine q_iload_n hJ dX10_order_7 (q := 8) rfl rfl ?_
    refine q_callS hJ dX10_order_8 (q := 11) rfl (S_isMoment m I R) imX10_isMoment ln_X10_44 rfl rfl rfl (Nat.le_of_ble_eq_true rfl) (by decide) (by decide) rfl rfl (fun rv gv Iv Rv hv => ?_)
    obtain ⟨rfl, rfl, rfl, rfl⟩ := hv
    refine q_if_eq hJ (tgt := 18) dX10_order_11 (q := 14) rfl (by decide) (fun c2 => ?_) (fun c2 => ?_)
    · refine q_sipush hJ (v := (-1002)) dX10_order_18 (q := 21) rfl (by decide) ?_
      refine q_iret hM dX10_order_21 rfl rfl ?_
      exact ⟨by
        unfold ordF
        by_cases z1 : inR e 0 2 = 0
        · rw [if_pos z1]
        · rw [if_neg z1]
          by_cases z2 : inR m 0 1 = 0
          · rw [if_pos z2]
          · rw [if_neg z2, if_pos]
            first | exact Int32.not_le.mp c3 | exact absurd c1 z1 | exact absurd c2 z2, rfl, rfl, rfl⟩
    · refine q_iload_n hJ dX10_order_14 (q := 15) rfl rfl ?_
      refine q_if_ge hJ (tgt := 22) dX10_order_15 (q := 18) rfl (by decide) (fun c3 => ?_) (fun c3 => ?_)
      · refine q_aload_n hJ dX10_order_22 (q := 23) rfl rfl (by first | rfl | exact isR_rr _) ?_
        refine q_getR hJ dX10_order_23 (q := 26) rfl fl_X10_10 rfl (by first | assumption | exact ka_x) (by assumption) rfl ?_
        refine q_getR hJ dX10_order_26 (q := 29) rfl fl_X10_58 rfl (by first | assumption | exact ka_x) (by assumption) rfl ?_
        refine q_getR hJ dX10_order_29 (q := 32) rfl fl_X10_61 rfl (by first | assumption | exact ka_x) (by assumption) rfl ?_
        refine q_iload_n hJ dX10_order_32 (q := 33) rfl rfl ?_
        refine q_iload_n hJ dX10_order_33 (q := 34) rfl rfl ?_
        refine q_iload_n hJ dX10_order_34 (q := 35) rfl rfl ?_
        refine q_callV hJ dX10_order_35 (q := 38) rfl (S_among 2 _ Q (odA A) e m p I R isB2 hFR hU (fun j hj => ⟨hO j hj, osrt_lt _ _ j hj⟩)) imX6_numberAmong ln_X10_184 hkr (by decide) rfl rfl rfl rfl (Nat.le_of_ble_eq_true rfl) (by decide) (by decide) rfl rfl (fun rv gv Iv Rv hv => ?_)
        obtain ⟨rfl, rfl, rfl, rfl⟩ := hv
        rw [show amF (fun r => I (Q r) 0 = e ∧ I (Q r) 1 = m) (odA A) p 0 (aM A) 0 = amF (fun r => aU A r 0 = e ∧ aU A r 1 = m) (odA A) p 0 (aM A) 0 from amF_congr (fun t _ h2 => by have hl : odA A t < aM A := osrt_lt _ _ t (by omega); rw [hC _ hl 0 (by decide), hC _ hl 1 (by decide)])]
        refine q_iret hM dX10_order_38 rfl rfl ?_
        exact ⟨by rw [ordF, if_neg c1, if_neg c2, if_neg (Int32.not_lt.mpr c3)], rfl, rfl, rfl⟩
      · refine q_sipush hJ (v := (-1002)) dX10_order_18 (q := 21) rfl (by decide) ?_
        refine q_iret hM dX10_order_21 rfl rfl ?_
        exact ⟨by
          unfold ordF
          by_cases z1 : inR e 0 2 = 0
          · rw [if_pos z1]
          · rw [if_neg z1]
            by_cases z2 : inR m 0 1 = 0
            · rw [if_pos z2]
            · rw [if_neg z2, if_pos]
              first | exact Int32.not_le.mp c3 | exact absurd c1 z1 | exact absurd c2 z2, rfl, rfl, rfl⟩

set_option maxRecDepth 100000 in
set_option maxHeartbeats 400000 in
theorem S_firing (x w : Int32) (A : AS) (hs : Nat → AS) (h : Nat) (sn : AS) (kp : Bool) (tx : Nat → Int32) (tn : Nat) (B : AS) (I : MI) (R : MR) (H : CYB I R A hs h sn kp tx tn B) : Sp 37 0 0 mX10_firing [.ref 0, .int x, .int w] g0 I R (Rt (some (.int (firF A x w))) g0 I R) := by
  have hFR := H.1
  have hk1 := ka1
  have hk2 := ka_sta isB2
  have hkt := ka_tbl isB2
  have hkr := ka_rls isB2
  have hkg := ka_log isB2
  have hk145 := ka145
  have hk315 := ka315
  have hx0 := hFR.2.1.1
  have hx1 := hFR.2.1.2.1
  have hx2 := hFR.2.1.2.2.1
  have hx4 := hFR.2.1.2.2.2.1
  have hx5 := hFR.2.1.2.2.2.2
  have he0 := hFR.2.2.1.1
  have hs0 : R 2 0 = some (2 + 1) := (hFR.1 2 isB2).1
  have hs1 : R 2 1 = some (2 + 23) := (hFR.1 2 isB2).2.1
  have hs2 : R 2 2 = some (2 + 38) := (hFR.1 2 isB2).2.2.1
  refine Sp.on (by decide +kernel) rfl rfl (fun J hM => ?_)
  have hJ := hM.ok
  refine q_iload_n hJ dX10_firing_0 (q := 1) rfl rfl ?_
  refine q_if_lt hJ (tgt := 13) dX10_firing_1 (q := 4) rfl (by decide) (fun c1 => ?_) (fun c1 => ?_)
  · refine q_sipush hJ (v := (-1002)) dX10_firing_13 (q := 16) rfl (by decide) ?_
    refine q_iret hM dX10_firing_16 rfl rfl ?_
    exact ⟨by
      unfold firF
      by_cases z1 : x < 0
      · rw [if_pos z1]
      · rw [if_neg z1, if_pos]
        first | exact absurd c1 z1 | exact c2, rfl, rfl, rfl⟩
  · refine q_iload_n hJ dX10_firing_4 (q := 5) rfl rfl ?_
    refine q_iconst hJ (v := 0) dX10_firing_5 (q := 6) rfl (by decide) ?_
    refine q_iconst hJ (v := 2) dX10_firing_6 (q := 7) rfl (by decide) ?_
    refine q_callS hJ dX10_firing_7 (q := 10) rfl (S_within w 0 2 I R) imX10_within ln_X10_47 rfl rfl rfl (Nat.le_of_ble_eq_true rfl) (by decide) (by decide) rfl rfl (fun rv gv Iv Rv hv => ?_)
    obtain ⟨rfl, rfl, rfl, rfl⟩ := hv
    refine q_if_ne hJ (tgt := 17) dX10_firing_10 (q := 13) rfl (by decide) (fun c2 => ?_) (fun c2 => ?_)
    · refine q_aload_n hJ dX10_firing_17 (q := 18) rfl rfl (by first | rfl | exact isR_rr _) ?_
      refine q_getR hJ dX10_firing_18 (q := 21) rfl fl_X10_10 rfl (by first | assumption | exact ka_x) (by assumption) rfl ?_
      refine q_getR hJ dX10_firing_21 (q := 24) rfl fl_X10_58 rfl (by first | assumption | exact ka_x) (by assumption) rfl ?_
      refine q_getR hJ dX10_firing_24 (q := 27) rfl fl_X10_187 rfl (by first | assumption | exact ka_x) (by assumption) rfl ?_
      refine q_iload_n hJ dX10_firing_27 (q := 28) rfl rfl ?_
      refine q_iload_n hJ dX10_firing_28 (q := 29) rfl rfl ?_
      refine q_callV hJ dX10_firing_29 (q := 32) rfl (S_logTell 2 _ x w I R isB2 hFR H.2.2.2.1.2.2.2.1 H.2.2.2.1.2.2.2.2.1) imX1_tell ln_X10_191 hkg (by decide) rfl rfl rfl rfl (Nat.le_of_ble_eq_true rfl) (by decide) (by decide) rfl rfl (fun rv gv Iv Rv hv => ?_)
      obtain ⟨rfl, rfl, rfl, rfl⟩ := hv
      refine q_iret hM dX10_firing_32 rfl rfl ?_
      have hl := H.2.2.2.1.2.2.2.2.2
      exact ⟨by
        unfold firF telL
        rw [if_neg c1, if_neg c1, if_neg c2]
        by_cases z : nI (aR A) ≤ x
        · rw [if_pos z, if_pos z]
        · rw [if_neg z, if_neg z]
          obtain ⟨j, hj, rfl⟩ := nI_of c1
          have hjn : j < aR A := (nI_ltI hj (by have := H.2.2.2.1.2.2.2.2.1; omega)).mp (Int32.not_le.mp z)
          rw [nI_clamp hj]
          by_cases w0 : w = 0
          · rw [if_pos w0, if_pos w0, ← hl j hjn 0 (by decide)]
          · rw [if_neg w0, if_neg w0]
            by_cases w1 : w = 1
            · rw [if_pos w1, if_pos w1, ← hl j hjn 1 (by decide)]
            · rw [if_neg w1, if_neg w1, ← hl j hjn 2 (by decide)], rfl, rfl, rfl⟩
    · refine q_sipush hJ (v := (-1002)) dX10_firing_13 (q := 16) rfl (by decide) ?_
      refine q_iret hM dX10_firing_16 rfl rfl ?_
      exact ⟨by
        unfold firF
        by_cases z1 : x < 0
        · rw [if_pos z1]
        · rw [if_neg z1, if_pos]
          first | exact absurd c1 z1 | exact c2, rfl, rfl, rfl⟩

set_option maxRecDepth 100000 in
set_option maxHeartbeats 400000 in
theorem S_total (w : Int32) (A : AS) (hs : Nat → AS) (h : Nat) (sn : AS) (kp : Bool) (tx : Nat → Int32) (tn : Nat) (B : AS) (I : MI) (R : MR) (H : CYB I R A hs h sn kp tx tn B) : Sp 37 0 0 mX10_total [.ref 0, .int w] g0 I R (Rt (some (.int (totF A h tn w))) g0 I R) := by
  have hFR := H.1
  have hk1 := ka1
  have hk2 := ka_sta isB2
  have hkt := ka_tbl isB2
  have hkr := ka_rls isB2
  have hkg := ka_log isB2
  have hk145 := ka145
  have hk315 := ka315
  have hx0 := hFR.2.1.1
  have hx1 := hFR.2.1.2.1
  have hx2 := hFR.2.1.2.2.1
  have hx4 := hFR.2.1.2.2.2.1
  have hx5 := hFR.2.1.2.2.2.2
  have he0 := hFR.2.2.1.1
  have hs0 : R 2 0 = some (2 + 1) := (hFR.1 2 isB2).1
  have hs1 : R 2 1 = some (2 + 23) := (hFR.1 2 isB2).2.1
  have hs2 : R 2 2 = some (2 + 38) := (hFR.1 2 isB2).2.2.1
  refine Sp.on (by decide +kernel) rfl rfl (fun J hM => ?_)
  have hJ := hM.ok
  refine q_iload_n hJ dX10_total_0 (q := 1) rfl rfl ?_
  by_cases k_0 : w = 10
  · refine q_lsw hJ (off := 27) (tgt := 28) dX10_total_1 (by decide) (by rw [k_0]; decide) (by decide) ?_
    refine q_aload_n hJ dX10_total_28 (q := 29) rfl rfl (by first | rfl | exact isR_rr _) ?_
    refine q_getR hJ dX10_total_29 (q := 32) rfl fl_X10_29 rfl (by first | assumption | exact ka_x) (by assumption) rfl ?_
    refine q_getI hJ dX10_total_32 (q := 35) rfl fl_X10_155 rfl hk145 (show _ = nI h from H.2.2.2.2.2.2.2.1.1) ?_
    refine q_iret hM dX10_total_35 rfl rfl ?_
    exact ⟨by rw [totF, if_pos k_0], rfl, rfl, rfl⟩
  by_cases k_1 : w = 11
  · refine q_lsw hJ (off := 35) (tgt := 36) dX10_total_1 (by decide) (by rw [k_1]; decide) (by decide) ?_
    refine q_aload_n hJ dX10_total_36 (q := 37) rfl rfl (by first | rfl | exact isR_rr _) ?_
    refine q_getR hJ dX10_total_37 (q := 40) rfl fl_X10_36 rfl (by first | assumption | exact ka_x) (by assumption) rfl ?_
    refine q_getI hJ dX10_total_40 (q := 43) rfl fl_X10_136 rfl hk315 (show _ = nI tn from H.2.2.2.2.2.2.2.2.1.1) ?_
    refine q_iret hM dX10_total_43 rfl rfl ?_
    exact ⟨by rw [totF, if_neg k_0, if_pos k_1], rfl, rfl, rfl⟩
  refine q_lsw hJ (off := 43) (tgt := 44) dX10_total_1 (by decide) (lsw_out2 (k0 := 10) (by decide) k_0 (k1 := 11) (by decide) k_1) (by decide) ?_
  refine q_aload_n hJ dX10_total_44 (q := 45) rfl rfl (by first | rfl | exact isR_rr _) ?_
  refine q_getR hJ dX10_total_45 (q := 48) rfl fl_X10_10 rfl (by first | assumption | exact ka_x) (by assumption) rfl ?_
  refine q_getR hJ dX10_total_48 (q := 51) rfl fl_X10_58 rfl (by first | assumption | exact ka_x) (by assumption) rfl ?_
  refine q_iload_n hJ dX10_total_51 (q := 52) rfl rfl ?_
  refine q_callV hJ dX10_total_52 (q := 55) rfl (S_stateTell 2 A w I R isB2 hFR H.2.2.2.1) imX7_tell ln_X10_196 hk2 (by decide) rfl rfl rfl rfl (Nat.le_of_ble_eq_true rfl) (by decide) (by decide) rfl rfl (fun rv gv Iv Rv hv => ?_)
  obtain ⟨rfl, rfl, rfl, rfl⟩ := hv
  refine q_iret hM dX10_total_55 rfl rfl ?_
  exact ⟨by rw [totF, if_neg k_0, if_neg k_1], rfl, rfl, rfl⟩

