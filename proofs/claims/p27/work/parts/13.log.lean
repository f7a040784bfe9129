/-! TABLE, copying; THE RECORD OF FIRINGS -/
def addL (I : MI) (b n : Nat) (r d k : Int32) : MI := if n < 60 then up2 (up2 (up2 (up2 I (b + 39) n r) (b + 40) n d) (b + 41) n k) (b + 38) 3 (nI (n + 1)) else I
def telL (I : MI) (b n : Nat) (x w : Int32) : Int32 := if x < 0 then -1006 else if nI n ≤ x then -1006 else if w = 0 then I (b + 39) x.toNatClampNeg else if w = 1 then I (b + 40) x.toNatClampNeg else I (b + 41) x.toNatClampNeg
theorem nI_60 : (60 : Int32) = nI 60 := by decide
theorem nI_12 : (12 : Int32) = nI 12 := by decide
theorem TS.of {I I' : MI} {R : MR} {b n : Nat} {P : Nat → Nat} (h : TS I R b P n) (h1 : I' (b + 1) 1 = I (b + 1) 1) : TS I' R b P n := ⟨h1.trans h.1, h.2⟩
set_option maxRecDepth 100000 in
set_option maxHeartbeats 400000 in
theorem S_tblCopy (b c n1 n2 : Nat) (P1 P2 : Nat → Nat) (I : MI) (R : MR) (hB : isB b) (hC : isB c) (hne : b ≠ c) (hFR : FR R) (hT1 : TS I R b P1 n1) (hT2 : TS I R c P2 n2) : Sp 1 0 0 mX8_copyFrom [.ref (b + 1), .ref (c + 1)] g0 I R (Rt none g0 (cpR (up2 I (b + 1) 1 (nI n2)) P1 P2 4 n2) R) := by
  obtain ⟨hc1, hn1, hP1⟩ := hT1
  obtain ⟨hc2, hn2, hP2⟩ := id hT2
  have hka := ka_tbl hB
  have hkw := ka_rws hB
  have hkc := ka_tbl hC
  have hdis := isB_dis hB hC hne
  have hr0 : R (b + 1) 0 = some (b + 2) := (hFR.1 b hB).2.2.2.1
  have hcc : ∀ j, j ≤ n2 → cpR (up2 I (b + 1) 1 (nI n2)) P1 P2 4 j (b + 1) 1 = nI n2 := fun j hj => by
    rw [cpR_other _ _ _ _ _ _ (fun i hi z => by have := hP1 i (by omega); omega)]
    simp [up2_app]
  refine Sp.on (by decide +kernel) rfl rfl (fun J hM => ?_)
  have hJ := hM.ok
  have loop : ∀ (k j : Nat) (w1 w2 : Option Value), j + k = n2 → J 0 0 10 [some (.ref (b + 1)), some (.ref (c + 1)), some (.int (nI j)), w1, w2] [] g0 (cpR (up2 I (b + 1) 1 (nI n2)) P1 P2 4 j) R := by
    intro k
    induction k with
    | zero =>
      intro j w1 w2 hj
      have hcI : cpR (up2 I (b + 1) 1 (nI n2)) P1 P2 4 j (b + 1) 1 = nI n2 := hcc j (by omega)
      refine q_iload_n hJ dX8_copyFrom_10 (q := 11) rfl rfl ?_
      refine q_aload_n hJ dX8_copyFrom_11 (q := 12) rfl rfl rfl ?_
      refine q_getI hJ dX8_copyFrom_12 (q := 15) rfl fl_X8_18 rfl hka hcI ?_
      refine q_icmp_ge hJ (tgt := 62) dX8_copyFrom_15 (q := 18) rfl (by decide) (fun _ => ?_) (fun c1 => absurd ((nI_leI (by omega) (by omega)).mpr (by omega)) c1)
      refine q_vret hM dX8_copyFrom_62 rfl ?_
      obtain rfl : j = n2 := by omega
      exact ⟨rfl, rfl, rfl, rfl⟩
    | succ k ih =>
      intro j w1 w2 hj
      have hcI : cpR (up2 I (b + 1) 1 (nI n2)) P1 P2 4 j (b + 1) 1 = nI n2 := hcc j (by omega)
      have h1j := hP1 j (by omega)
      have h2j := hP2 j (by omega)
      have hk1 := ka_row hB h1j.2.1 h1j.2.2.1
      have hk2 := ka_row hC h2j.2.1 h2j.2.2.1
      have hTc : TS (cpR (up2 I (b + 1) 1 (nI n2)) P1 P2 4 j) R c P2 n2 := hT2.of (by rw [cpR_other _ _ _ _ _ _ (fun i hi z => by have := hP1 i (by omega); omega), up2_other _ _ _ _ (by omega)])
      refine q_iload_n hJ dX8_copyFrom_10 (q := 11) rfl rfl ?_
      refine q_aload_n hJ dX8_copyFrom_11 (q := 12) rfl rfl rfl ?_
      refine q_getI hJ dX8_copyFrom_12 (q := 15) rfl fl_X8_18 rfl hka hcI ?_
      refine q_icmp_ge hJ (tgt := 62) dX8_copyFrom_15 (q := 18) rfl (by decide) (fun c1 => absurd ((nI_leI (by omega) (by omega)).mp c1) (by omega)) (fun _ => ?_)
      refine q_iload_n hJ dX8_copyFrom_18 (q := 19) rfl rfl ?_
      refine q_aload_n hJ dX8_copyFrom_19 (q := 20) rfl rfl rfl ?_
      refine q_getR hJ dX8_copyFrom_20 (q := 23) rfl fl_X8_11 rfl hka hr0 rfl ?_
      refine q_alen hJ (v := 20) dX8_copyFrom_23 (q := 24) rfl (by assumption) (by decide) (by decide) (by decide) ?_
      refine q_icmp_ge hJ (tgt := 62) dX8_copyFrom_24 (q := 27) rfl (by decide) (fun c2 => absurd (by rw [nI_20] at c2; exact (nI_leI (by decide) (by omega)).mp c2) (by omega)) (fun _ => ?_)
      refine q_aload_n hJ dX8_copyFrom_27 (q := 28) rfl rfl rfl ?_
      refine q_getR hJ dX8_copyFrom_28 (q := 31) rfl fl_X8_11 rfl hka hr0 rfl ?_
      refine q_iload_n hJ dX8_copyFrom_31 (q := 32) rfl rfl ?_
      refine q_aald hJ dX8_copyFrom_32 (q := 33) rfl (by assumption) (by decide) (ix_nI (by omega) (by decide)) h1j.1 rfl ?_
      refine q_astore_n hJ dX8_copyFrom_33 (q := 34) rfl (by decide) rfl ?_
      refine q_aload_n hJ dX8_copyFrom_34 (q := 35) rfl rfl rfl ?_
      refine q_iload_n hJ dX8_copyFrom_35 (q := 36) rfl rfl ?_
      refine q_callV hJ dX8_copyFrom_36 (q := 39) rfl (S_rowAt c n2 P2 (nI j) _ R hC hFR hTc) imX8_rowAt ln_X8_29 hkc (by decide) rfl rfl rfl rfl (Nat.le_of_ble_eq_true rfl) (by decide) (by decide) rfl rfl (fun rv gv Iv Rv hv => ?_)
      obtain ⟨rfl, rfl, rfl, rfl⟩ := hv
      rw [rowAtF_in (by omega) hn2]
      refine q_astore hJ dX8_copyFrom_39 (q := 41) rfl (by decide) rfl ?_
      refine q_aload_n hJ dX8_copyFrom_41 (q := 42) rfl rfl rfl ?_
      refine q_nullN hJ dX8_copyFrom_42 (q := 45) rfl ?_
      refine q_aload hJ dX8_copyFrom_45 (q := 47) rfl rfl rfl ?_
      refine q_nullN hJ dX8_copyFrom_47 (q := 50) rfl ?_
      refine q_aload_n hJ dX8_copyFrom_50 (q := 51) rfl rfl rfl ?_
      refine q_aload hJ dX8_copyFrom_51 (q := 53) rfl rfl rfl ?_
      refine q_callV hJ dX8_copyFrom_53 (q := 56) rfl (S_rowCp (P1 j) (P2 j) _ R hk1 hk2) imX4_copyFrom ln_X8_25 hk1 (by decide) rfl rfl rfl rfl (Nat.le_of_ble_eq_true rfl) (by decide) (by decide) rfl rfl (fun rv gv Iv Rv hv => ?_)
      obtain ⟨rfl, rfl, rfl, rfl⟩ := hv
      refine q_iinc hJ dX8_copyFrom_56 (q := 59) rfl (by decide) rfl (nI_1 j) ?_
      refine q_goto hJ (tgt := 10) dX8_copyFrom_59 (by decide) ?_
      exact ih (j + 1) _ _ (by omega)
  refine q_aload_n hJ dX8_copyFrom_0 (q := 1) rfl rfl rfl ?_
  refine q_aload_n hJ dX8_copyFrom_1 (q := 2) rfl rfl rfl ?_
  refine q_getI hJ dX8_copyFrom_2 (q := 5) rfl fl_X8_18 rfl hkc hc2 ?_
  refine q_putI hJ dX8_copyFrom_5 (q := 8) rfl fl_X8_18 rfl rfl hka rfl rfl ?_
  refine q_iconst hJ (v := 0) dX8_copyFrom_8 (q := 9) rfl (by decide) ?_
  refine q_istore_n hJ dX8_copyFrom_9 (q := 10) rfl (by decide) ?_
  exact loop n2 0 none none (by omega)

set_option maxRecDepth 100000 in
set_option maxHeartbeats 400000 in
theorem S_logAdd (b n : Nat) (r d k : Int32) (I : MI) (R : MR) (hB : isB b) (hFR : FR R) (hc : I (b + 38) 3 = nI n) (hn : n ≤ 60) : Sp 0 0 0 mX1_add [.ref (b + 38), .int r, .int d, .int k] g0 I R (Rt none g0 (addL I b n r d k) R) := by
  have hka := ka_log hB
  have hk0 := ka_l0 hB
  have hk1 := ka_l1 hB
  have hk2 := ka_l2 hB
  obtain ⟨-, -, -, -, -, -, hr0, hr1, hr2⟩ := hFR.1 b hB
  refine Sp.on (by decide +kernel) rfl rfl (fun J hM => ?_)
  have hJ := hM.ok
  by_cases hlt : n < 60
  · refine q_aload_n hJ dX1_add_0 (q := 1) rfl rfl rfl ?_
    refine q_getI hJ dX1_add_1 (q := 4) rfl fl_X1_21 rfl (by assumption) (show _ = nI n from by simp [up2_app, hc]) ?_
    refine q_if_lt hJ (tgt := 16) dX1_add_4 (q := 7) rfl (by decide) (fun c0 => absurd c0 (nI_pos (by omega))) (fun _ => ?_)
    refine q_aload_n hJ dX1_add_7 (q := 8) rfl rfl rfl ?_
    refine q_getI hJ dX1_add_8 (q := 11) rfl fl_X1_21 rfl (by assumption) (show _ = nI n from by simp [up2_app, hc]) ?_
    refine q_bipush hJ (v := 60) dX1_add_11 (q := 13) rfl (by decide) ?_
    refine q_icmp_lt hJ (tgt := 17) dX1_add_13 (q := 16) rfl (by decide) (fun _ => ?_) (fun c1 => absurd (by rw [nI_60]; exact (nI_ltI (by omega) (by decide)).mpr hlt) c1)
    refine q_aload_n hJ dX1_add_17 (q := 18) rfl rfl rfl ?_
    refine q_getR hJ dX1_add_18 (q := 21) rfl fl_X1_9 rfl (by assumption) (by assumption) rfl ?_
    refine q_aload_n hJ dX1_add_21 (q := 22) rfl rfl rfl ?_
    refine q_getI hJ dX1_add_22 (q := 25) rfl fl_X1_21 rfl (by assumption) (show _ = nI n from by simp [up2_app, hc]) ?_
    refine q_iload_n hJ dX1_add_25 (q := 26) rfl rfl ?_
    refine q_iast hJ dX1_add_26 (q := 27) rfl (by assumption) (ix_nI hlt (by decide)) ?_
    refine q_aload_n hJ dX1_add_27 (q := 28) rfl rfl rfl ?_
    refine q_getR hJ dX1_add_28 (q := 31) rfl fl_X1_15 rfl (by assumption) (by assumption) rfl ?_
    refine q_aload_n hJ dX1_add_31 (q := 32) rfl rfl rfl ?_
    refine q_getI hJ dX1_add_32 (q := 35) rfl fl_X1_21 rfl (by assumption) (show _ = nI n from by simp [up2_app, hc]) ?_
    refine q_iload_n hJ dX1_add_35 (q := 36) rfl rfl ?_
    refine q_iast hJ dX1_add_36 (q := 37) rfl (by assumption) (ix_nI hlt (by decide)) ?_
    refine q_aload_n hJ dX1_add_37 (q := 38) rfl rfl rfl ?_
    refine q_getR hJ dX1_add_38 (q := 41) rfl fl_X1_18 rfl (by assumption) (by assumption) rfl ?_
    refine q_aload_n hJ dX1_add_41 (q := 42) rfl rfl rfl ?_
    refine q_getI hJ dX1_add_42 (q := 45) rfl fl_X1_21 rfl (by assumption) (show _ = nI n from by simp [up2_app, hc]) ?_
    refine q_iload_n hJ dX1_add_45 (q := 46) rfl rfl ?_
    refine q_iast hJ dX1_add_46 (q := 47) rfl (by assumption) (ix_nI hlt (by decide)) ?_
    refine q_aload_n hJ dX1_add_47 (q := 48) rfl rfl rfl ?_
    refine q_dup hJ dX1_add_48 (q := 49) rfl rfl ?_
    refine q_getI hJ dX1_add_49 (q := 52) rfl fl_X1_21 rfl (by assumption) (show _ = nI n from by simp [up2_app, hc]) ?_
    refine q_iconst hJ (v := 1) dX1_add_52 (q := 53) rfl (by decide) ?_
    refine q_iadd hJ dX1_add_53 (q := 54) rfl ?_
    refine q_putI hJ dX1_add_54 (q := 57) rfl fl_X1_21 rfl rfl (by assumption) rfl rfl ?_
    refine q_vret hM dX1_add_57 rfl ?_
    exact ⟨rfl, rfl, by simp only [addL, if_pos hlt]; rw [nI_1], rfl⟩
  · refine q_aload_n hJ dX1_add_0 (q := 1) rfl rfl rfl ?_
    refine q_getI hJ dX1_add_1 (q := 4) rfl fl_X1_21 rfl (by assumption) (show _ = nI n from by simp [up2_app, hc]) ?_
    refine q_if_lt hJ (tgt := 16) dX1_add_4 (q := 7) rfl (by decide) (fun c0 => absurd c0 (nI_pos (by omega))) (fun _ => ?_)
    refine q_aload_n hJ dX1_add_7 (q := 8) rfl rfl rfl ?_
    refine q_getI hJ dX1_add_8 (q := 11) rfl fl_X1_21 rfl (by assumption) (show _ = nI n from by simp [up2_app, hc]) ?_
    refine q_bipush hJ (v := 60) dX1_add_11 (q := 13) rfl (by decide) ?_
    refine q_icmp_lt hJ (tgt := 17) dX1_add_13 (q := 16) rfl (by decide) (fun c1 => absurd (by rw [nI_60] at c1; exact (nI_ltI (by omega) (by decide)).mp c1) hlt) (fun _ => ?_)
    refine q_vret hM dX1_add_16 rfl ?_
    exact ⟨rfl, rfl, by simp only [addL, if_neg hlt], rfl⟩

set_option maxRecDepth 100000 in
set_option maxHeartbeats 400000 in
theorem S_logTell (b n : Nat) (x w : Int32) (I : MI) (R : MR) (hB : isB b) (hFR : FR R) (hc : I (b + 38) 3 = nI n) (hn : n ≤ 60) : Sp 0 0 0 mX1_tell [.ref (b + 38), .int x, .int w] g0 I R (Rt (some (.int (telL I b n x w))) g0 I R) := by
  have hka := ka_log hB
  have hk0 := ka_l0 hB
  have hk1 := ka_l1 hB
  have hk2 := ka_l2 hB
  obtain ⟨-, -, -, -, -, -, hr0, hr1, hr2⟩ := hFR.1 b hB
  refine Sp.on (by decide +kernel) rfl rfl (fun J hM => ?_)
  have hJ := hM.ok
  refine q_iload_n hJ dX1_tell_0 (q := 1) rfl rfl ?_
  refine q_if_lt hJ (tgt := 18) dX1_tell_1 (q := 4) rfl (by decide) (fun c1 => ?_) (fun c1 => ?_)
  · refine q_sipush hJ (v := (-1006)) dX1_tell_18 (q := 21) rfl (by decide) ?_
    refine q_iret hM dX1_tell_21 rfl rfl ?_
    exact ⟨by simp [telL, *], rfl, rfl, rfl⟩
  · refine q_iload_n hJ dX1_tell_4 (q := 5) rfl rfl ?_
    refine q_aload_n hJ dX1_tell_5 (q := 6) rfl rfl rfl ?_
    refine q_getI hJ dX1_tell_6 (q := 9) rfl fl_X1_21 rfl (by assumption) hc ?_
    refine q_icmp_ge hJ (tgt := 18) dX1_tell_9 (q := 12) rfl (by decide) (fun c2 => ?_) (fun c2 => ?_)
    · refine q_sipush hJ (v := (-1006)) dX1_tell_18 (q := 21) rfl (by decide) ?_
      refine q_iret hM dX1_tell_21 rfl rfl ?_
      exact ⟨by simp [telL, *], rfl, rfl, rfl⟩
    · obtain ⟨j, hj, rfl⟩ := nI_of c1
      have hjn : j < n := (nI_ltI hj (by omega)).mp (Int32.not_le.mp c2)
      refine q_iload_n hJ dX1_tell_12 (q := 13) rfl rfl ?_
      refine q_bipush hJ (v := 60) dX1_tell_13 (q := 15) rfl (by decide) ?_
      refine q_icmp_lt hJ (tgt := 22) dX1_tell_15 (q := 18) rfl (by decide) (fun _ => ?_) (fun c3 => absurd (by rw [nI_60]; exact (nI_ltI hj (by decide)).mpr (by omega)) c3)
      refine q_iload_n hJ dX1_tell_22 (q := 23) rfl rfl ?_
      by_cases k1_0 : w = 0
      · refine q_lsw hJ (off := 25) (tgt := 48) dX1_tell_23 (by decide) (by rw [k1_0]; decide) (by decide) ?_
        refine q_aload_n hJ dX1_tell_48 (q := 49) rfl rfl rfl ?_
        refine q_getR hJ dX1_tell_49 (q := 52) rfl fl_X1_9 rfl (by assumption) (by assumption) rfl ?_
        refine q_iload_n hJ dX1_tell_52 (q := 53) rfl rfl ?_
        refine q_iald hJ dX1_tell_53 (q := 54) rfl (by assumption) (ix_nI (by omega) (by decide)) rfl ?_
        refine q_iret hM dX1_tell_54 rfl rfl ?_
        exact ⟨by simp [telL, nI_pos hj, c2, nI_clamp hj, *], rfl, rfl, rfl⟩
      by_cases k1_1 : w = 1
      · refine q_lsw hJ (off := 32) (tgt := 55) dX1_tell_23 (by decide) (by rw [k1_1]; decide) (by decide) ?_
        refine q_aload_n hJ dX1_tell_55 (q := 56) rfl rfl rfl ?_
        refine q_getR hJ dX1_tell_56 (q := 59) rfl fl_X1_15 rfl (by assumption) (by assumption) rfl ?_
        refine q_iload_n hJ dX1_tell_59 (q := 60) rfl rfl ?_
        refine q_iald hJ dX1_tell_60 (q := 61) rfl (by assumption) (ix_nI (by omega) (by decide)) rfl ?_
        refine q_iret hM dX1_tell_61 rfl rfl ?_
        exact ⟨by simp [telL, nI_pos hj, c2, nI_clamp hj, *], rfl, rfl, rfl⟩
      refine q_lsw hJ (off := 39) (tgt := 62) dX1_tell_23 (by decide) (lsw_out2 (k0 := 0) (by decide) k1_0 (k1 := 1) (by decide) k1_1) (by decide) ?_
      refine q_aload_n hJ dX1_tell_62 (q := 63) rfl rfl rfl ?_
      refine q_getR hJ dX1_tell_63 (q := 66) rfl fl_X1_18 rfl (by assumption) (by assumption) rfl ?_
      refine q_iload_n hJ dX1_tell_66 (q := 67) rfl rfl ?_
      refine q_iald hJ dX1_tell_67 (q := 68) rfl (by assumption) (ix_nI (by omega) (by decide)) rfl ?_
      refine q_iret hM dX1_tell_68 rfl rfl ?_
      exact ⟨by simp [telL, nI_pos hj, c2, nI_clamp hj, *], rfl, rfl, rfl⟩

set_option maxRecDepth 100000 in
set_option maxHeartbeats 400000 in
theorem S_logCopy (b c : Nat) (I : MI) (R : MR) (hB : isB b) (hC : isB c) (hFR : FR R) : Sp 1 0 0 mX1_copyFrom [.ref (b + 38), .ref (c + 38)] g0 I R (Rt none g0 (cp0 (cp0 (cp0 (up2 I (b + 38) 3 (I (c + 38) 3)) (c + 39) (b + 39) 60) (c + 40) (b + 40) 60) (c + 41) (b + 41) 60) R) := by
  have hka := ka_log hB
  have hk0 := ka_l0 hB
  have hk1 := ka_l1 hB
  have hk2 := ka_l2 hB
  have hkb := ka_log hC
  have hk3 := ka_l0 hC
  have hk4 := ka_l1 hC
  have hk5 := ka_l2 hC
  obtain ⟨-, -, -, -, -, -, hr0, hr1, hr2⟩ := hFR.1 b hB
  obtain ⟨-, -, -, -, -, -, hr3, hr4, hr5⟩ := hFR.1 c hC
  refine Sp.on (by decide +kernel) rfl rfl (fun J hM => ?_)
  have hJ := hM.ok
  refine q_aload_n hJ dX1_copyFrom_0 (q := 1) rfl rfl rfl ?_
  refine q_aload_n hJ dX1_copyFrom_1 (q := 2) rfl rfl rfl ?_
  refine q_getI hJ dX1_copyFrom_2 (q := 5) rfl fl_X1_21 rfl (by assumption) rfl ?_
  refine q_putI hJ dX1_copyFrom_5 (q := 8) rfl fl_X1_21 rfl rfl (by assumption) rfl rfl ?_
  refine q_aload_n hJ dX1_copyFrom_8 (q := 9) rfl rfl rfl ?_
  refine q_getR hJ dX1_copyFrom_9 (q := 12) rfl fl_X1_9 rfl (by assumption) (by assumption) rfl ?_
  refine q_iconst hJ (v := 0) dX1_copyFrom_12 (q := 13) rfl (by decide) ?_
  refine q_aload_n hJ dX1_copyFrom_13 (q := 14) rfl rfl rfl ?_
  refine q_getR hJ dX1_copyFrom_14 (q := 17) rfl fl_X1_9 rfl (by assumption) (by assumption) rfl ?_
  refine q_iconst hJ (v := 0) dX1_copyFrom_17 (q := 18) rfl (by decide) ?_
  refine q_bipush hJ (v := 60) dX1_copyFrom_18 (q := 20) rfl (by decide) ?_
  refine q_copy hJ (N := 60) dX1_copyFrom_20 (q := 23) rfl ln_X1_25 aw (by assumption) (by assumption) ⟨by decide, by decide⟩ (by decide) (by decide) rfl (Nat.le_of_ble_eq_true rfl) (by decide) ?_
  refine q_aload_n hJ dX1_copyFrom_23 (q := 24) rfl rfl rfl ?_
  refine q_getR hJ dX1_copyFrom_24 (q := 27) rfl fl_X1_15 rfl (by assumption) (by assumption) rfl ?_
  refine q_iconst hJ (v := 0) dX1_copyFrom_27 (q := 28) rfl (by decide) ?_
  refine q_aload_n hJ dX1_copyFrom_28 (q := 29) rfl rfl rfl ?_
  refine q_getR hJ dX1_copyFrom_29 (q := 32) rfl fl_X1_15 rfl (by assumption) (by assumption) rfl ?_
  refine q_iconst hJ (v := 0) dX1_copyFrom_32 (q := 33) rfl (by decide) ?_
  refine q_bipush hJ (v := 60) dX1_copyFrom_33 (q := 35) rfl (by decide) ?_
  refine q_copy hJ (N := 60) dX1_copyFrom_35 (q := 38) rfl ln_X1_25 aw (by assumption) (by assumption) ⟨by decide, by decide⟩ (by decide) (by decide) rfl (Nat.le_of_ble_eq_true rfl) (by decide) ?_
  refine q_aload_n hJ dX1_copyFrom_38 (q := 39) rfl rfl rfl ?_
  refine q_getR hJ dX1_copyFrom_39 (q := 42) rfl fl_X1_18 rfl (by assumption) (by assumption) rfl ?_
  refine q_iconst hJ (v := 0) dX1_copyFrom_42 (q := 43) rfl (by decide) ?_
  refine q_aload_n hJ dX1_copyFrom_43 (q := 44) rfl rfl rfl ?_
  refine q_getR hJ dX1_copyFrom_44 (q := 47) rfl fl_X1_18 rfl (by assumption) (by assumption) rfl ?_
  refine q_iconst hJ (v := 0) dX1_copyFrom_47 (q := 48) rfl (by decide) ?_
  refine q_bipush hJ (v := 60) dX1_copyFrom_48 (q := 50) rfl (by decide) ?_
  refine q_copy hJ (N := 60) dX1_copyFrom_50 (q := 53) rfl ln_X1_25 aw (by assumption) (by assumption) ⟨by decide, by decide⟩ (by decide) (by decide) rfl (Nat.le_of_ble_eq_true rfl) (by decide) ?_
  refine q_vret hM dX1_copyFrom_53 rfl ?_
  exact ⟨rfl, rfl, rfl, rfl⟩

