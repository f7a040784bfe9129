/-! THE LIST OF RULES -/
def US (I : MI) (R : MR) (b : Nat) (Q : Nat → Nat) (m : Nat) : Prop := I (b + 23) 2 = nI m ∧ m ≤ 12 ∧ ∀ j, j < 12 → R (b + 24) j = some (Q j) ∧ b + 26 ≤ Q j ∧ Q j < b + 38 ∧ ∀ i, i < 12 → Q i = Q j → i = j
theorem US.of {I I' : MI} {R : MR} {b n : Nat} {Q : Nat → Nat} (h : US I R b Q n) (h1 : I' (b + 23) 2 = I (b + 23) 2) : US I' R b Q n := ⟨h1.trans h.1, h.2⟩
def numF (I : MI) (b m : Nat) (x : Int32) : Int32 := if x < 0 then -1006 else if nI m ≤ x then -1006 else I (b + 25) x.toNatClampNeg
def coF (f : Nat → Int32) : Nat → Nat
  | 0 => 0
  | k + 1 => coF f k + (if f k = 0 then 0 else 1)
theorem coF_le (f : Nat → Int32) (k : Nat) : coF f k ≤ k := by
  induction k with
  | zero => exact Nat.le_refl 0
  | succ k ih =>
    unfold coF
    split <;> omega
def amF (p : Nat → Prop) [DecidablePred p] (od : Nat → Nat) (w : Int32) : Nat → Nat → Nat → Option Nat
  | _, 0, _ => none
  | j, k + 1, c => if p (od j) then (if nI c = w then some (od j) else amF p od w (j + 1) k (c + 1)) else amF p od w (j + 1) k c
def noI (r : Option Nat) : Int32 := match r with
  | none => -1006
  | some a => nI a
theorem rowAtF_in12 {j n : Nat} {P : Nat → Nat} (h : j < n) (hn : n ≤ 12) : rowAtF (nI j) n P = some (P j) := rowAtF_in h (by omega)
theorem numF_in {I : MI} {b j m : Nat} (h : j < m) (hn : m ≤ 12) : numF I b m (nI j) = I (b + 25) j := by
  have h1 : ¬ nI j < 0 := nI_pos (by omega)
  have h2 : ¬ nI m ≤ nI j := nI_ge h (by omega)
  rw [numF, if_neg h1, if_neg h2, nI_clamp (by omega)]
set_option maxRecDepth 100000 in
set_option maxHeartbeats 400000 in
theorem S_ruleOf (b m : Nat) (Q : Nat → Nat) (x : Int32) (I : MI) (R : MR) (hB : isB b) (hFR : FR R) (hU : US I R b Q m) : Sp 0 0 0 mX6_ruleOf [.ref (b + 23), .int x] g0 I R (Rt (some (rr (rowAtF x m Q))) g0 I R) := by
  obtain ⟨hc, hn, hQ⟩ := id hU
  have hka := ka_rls hB
  have hkw := ka_rla hB
  have hkn := ka_num hB
  have hr0 : R (b + 23) 0 = some (b + 24) := (hFR.1 b hB).2.2.2.2.1
  have hr1 : R (b + 23) 1 = some (b + 25) := (hFR.1 b hB).2.2.2.2.2.1
  refine Sp.on (by decide +kernel) rfl rfl (fun J hM => ?_)
  have hJ := hM.ok
  refine q_iload_n hJ dX6_ruleOf_0 (q := 1) rfl rfl ?_
  refine q_if_lt hJ (tgt := 30) dX6_ruleOf_1 (q := 4) rfl (by decide) (fun c1 => ?_) (fun c1 => ?_)
  · refine q_null hJ dX6_ruleOf_30 (q := 31) rfl ?_
    refine q_aret hM dX6_ruleOf_31 rfl rfl ?_
    exact ⟨by simp [rowAtF, rr, *], rfl, rfl, rfl⟩
  · refine q_iload_n hJ dX6_ruleOf_4 (q := 5) rfl rfl ?_
    refine q_aload_n hJ dX6_ruleOf_5 (q := 6) rfl rfl rfl ?_
    refine q_getI hJ dX6_ruleOf_6 (q := 9) rfl fl_X6_22 rfl (by assumption) hc ?_
    refine q_icmp_ge hJ (tgt := 30) dX6_ruleOf_9 (q := 12) rfl (by decide) (fun c2 => ?_) (fun c2 => ?_)
    · refine q_null hJ dX6_ruleOf_30 (q := 31) rfl ?_
      refine q_aret hM dX6_ruleOf_31 rfl rfl ?_
      exact ⟨by simp [rowAtF, rr, *], rfl, rfl, rfl⟩
    · obtain ⟨j, hj, rfl⟩ := nI_of c1
      have hjn : j < m := (nI_ltI hj (by omega)).mp (Int32.not_le.mp c2)
      have hjx : ix (nI j) j 12 := ix_nI (by omega) (by decide)
      have hrow : R (b + 24) j = some (Q j) := (hQ j (by omega)).1
      refine q_iload_n hJ dX6_ruleOf_12 (q := 13) rfl rfl ?_
      refine q_aload_n hJ dX6_ruleOf_13 (q := 14) rfl rfl rfl ?_
      refine q_getR hJ dX6_ruleOf_14 (q := 17) rfl fl_X6_11 rfl (by assumption) (by assumption) rfl ?_
      refine q_alen hJ (v := 12) dX6_ruleOf_17 (q := 18) rfl (by assumption) (by decide) (by decide) (by decide) ?_
      refine q_icmp_ge hJ (tgt := 30) dX6_ruleOf_18 (q := 21) rfl (by decide) (fun c3 => absurd (by rw [nI_12] at c3; exact (nI_leI (by decide) hj).mp c3) (by omega)) (fun _ => ?_)
      refine q_aload_n hJ dX6_ruleOf_21 (q := 22) rfl rfl rfl ?_
      refine q_getR hJ dX6_ruleOf_22 (q := 25) rfl fl_X6_11 rfl (by assumption) (by assumption) rfl ?_
      refine q_iload_n hJ dX6_ruleOf_25 (q := 26) rfl rfl ?_
      refine q_aald hJ dX6_ruleOf_26 (q := 27) rfl (by assumption) (by decide) (by assumption) (by assumption) rfl ?_
      refine q_goto hJ (tgt := 31) dX6_ruleOf_27 (by decide) ?_
      refine q_aret hM dX6_ruleOf_31 rfl rfl ?_
      exact ⟨by simp [rowAtF, rr, nI_pos hj, c2, nI_clamp hj], rfl, rfl, rfl⟩

set_option maxRecDepth 100000 in
set_option maxHeartbeats 400000 in
theorem S_numberAt (b m : Nat) (Q : Nat → Nat) (x : Int32) (I : MI) (R : MR) (hB : isB b) (hFR : FR R) (hU : US I R b Q m) : Sp 0 0 0 mX6_numberAt [.ref (b + 23), .int x] g0 I R (Rt (some (.int (numF I b m x))) g0 I R) := by
  obtain ⟨hc, hn, hQ⟩ := id hU
  have hka := ka_rls hB
  have hkw := ka_rla hB
  have hkn := ka_num hB
  have hr0 : R (b + 23) 0 = some (b + 24) := (hFR.1 b hB).2.2.2.2.1
  have hr1 : R (b + 23) 1 = some (b + 25) := (hFR.1 b hB).2.2.2.2.2.1
  refine Sp.on (by decide +kernel) rfl rfl (fun J hM => ?_)
  have hJ := hM.ok
  refine q_iload_n hJ dX6_numberAt_0 (q := 1) rfl rfl ?_
  refine q_if_lt hJ (tgt := 30) dX6_numberAt_1 (q := 4) rfl (by decide) (fun c1 => ?_) (fun c1 => ?_)
  · refine q_sipush hJ (v := (-1006)) dX6_numberAt_30 (q := 33) rfl (by decide) ?_
    refine q_iret hM dX6_numberAt_33 rfl rfl ?_
    exact ⟨by simp [numF, *], rfl, rfl, rfl⟩
  · refine q_iload_n hJ dX6_numberAt_4 (q := 5) rfl rfl ?_
    refine q_aload_n hJ dX6_numberAt_5 (q := 6) rfl rfl rfl ?_
    refine q_getI hJ dX6_numberAt_6 (q := 9) rfl fl_X6_22 rfl (by assumption) hc ?_
    refine q_icmp_ge hJ (tgt := 30) dX6_numberAt_9 (q := 12) rfl (by decide) (fun c2 => ?_) (fun c2 => ?_)
    · refine q_sipush hJ (v := (-1006)) dX6_numberAt_30 (q := 33) rfl (by decide) ?_
      refine q_iret hM dX6_numberAt_33 rfl rfl ?_
      exact ⟨by simp [numF, *], rfl, rfl, rfl⟩
    · obtain ⟨j, hj, rfl⟩ := nI_of c1
      have hjn : j < m := (nI_ltI hj (by omega)).mp (Int32.not_le.mp c2)
      have hjx : ix (nI j) j 12 := ix_nI (by omega) (by decide)
      refine q_iload_n hJ dX6_numberAt_12 (q := 13) rfl rfl ?_
      refine q_aload_n hJ dX6_numberAt_13 (q := 14) rfl rfl rfl ?_
      refine q_getR hJ dX6_numberAt_14 (q := 17) rfl fl_X6_17 rfl (by assumption) (by assumption) rfl ?_
      refine q_alen hJ (v := 12) dX6_numberAt_17 (q := 18) rfl (by assumption) (by decide) (by decide) (by decide) ?_
      refine q_icmp_ge hJ (tgt := 30) dX6_numberAt_18 (q := 21) rfl (by decide) (fun c3 => absurd (by rw [nI_12] at c3; exact (nI_leI (by decide) hj).mp c3) (by omega)) (fun _ => ?_)
      refine q_aload_n hJ dX6_numberAt_21 (q := 22) rfl rfl rfl ?_
      refine q_getR hJ dX6_numberAt_22 (q := 25) rfl fl_X6_17 rfl (by assumption) (by assumption) rfl ?_
      refine q_iload_n hJ dX6_numberAt_25 (q := 26) rfl rfl ?_
      refine q_iald hJ dX6_numberAt_26 (q := 27) rfl (by assumption) (by assumption) rfl ?_
      refine q_goto hJ (tgt := 33) dX6_numberAt_27 (by decide) ?_
      refine q_iret hM dX6_numberAt_33 rfl rfl ?_
      exact ⟨by simp [numF, nI_pos hj, c2, nI_clamp hj], rfl, rfl, rfl⟩

set_option maxRecDepth 100000 in
set_option maxHeartbeats 400000 in
theorem S_spare (b m : Nat) (Q : Nat → Nat) (I : MI) (R : MR) (hB : isB b) (hFR : FR R) (hU : US I R b Q m) : Sp 0 0 0 mX6_spare [.ref (b + 23)] g0 I R (Rt (some (rr (if m < 12 then some (Q m) else none))) g0 I R) := by
  obtain ⟨hc, hn, hQ⟩ := id hU
  have hka := ka_rls hB
  have hkw := ka_rla hB
  have hkn := ka_num hB
  have hr0 : R (b + 23) 0 = some (b + 24) := (hFR.1 b hB).2.2.2.2.1
  have hr1 : R (b + 23) 1 = some (b + 25) := (hFR.1 b hB).2.2.2.2.2.1
  refine Sp.on (by decide +kernel) rfl rfl (fun J hM => ?_)
  have hJ := hM.ok
  refine q_aload_n hJ dX6_spare_0 (q := 1) rfl rfl rfl ?_
  refine q_getI hJ dX6_spare_1 (q := 4) rfl fl_X6_22 rfl (by assumption) hc ?_
  refine q_if_lt hJ (tgt := 31) dX6_spare_4 (q := 7) rfl (by decide) (fun c0 => absurd c0 (nI_pos (by omega))) (fun _ => ?_)
  refine q_aload_n hJ dX6_spare_7 (q := 8) rfl rfl rfl ?_
  refine q_getI hJ dX6_spare_8 (q := 11) rfl fl_X6_22 rfl (by assumption) hc ?_
  refine q_aload_n hJ dX6_spare_11 (q := 12) rfl rfl rfl ?_
  refine q_getR hJ dX6_spare_12 (q := 15) rfl fl_X6_11 rfl (by assumption) (by assumption) rfl ?_
  refine q_alen hJ (v := 12) dX6_spare_15 (q := 16) rfl (by assumption) (by decide) (by decide) (by decide) ?_
  refine q_icmp_ge hJ (tgt := 31) dX6_spare_16 (q := 19) rfl (by decide) (fun c1 => ?_) (fun c1 => ?_)
  · refine q_null hJ dX6_spare_31 (q := 32) rfl ?_
    refine q_aret hM dX6_spare_32 rfl rfl ?_
    have hge : ¬ m < 12 := fun z => absurd (by rw [nI_12] at c1; exact (nI_leI (by decide) (by omega)).mp c1) (Nat.not_le.mpr z)
    exact ⟨by rw [if_neg hge]; rfl, rfl, rfl, rfl⟩
  · have hlt : m < 12 := (nI_ltI (by omega) (by decide)).mp (by rw [← nI_12]; exact Int32.not_le.mp c1)
    refine q_aload_n hJ dX6_spare_19 (q := 20) rfl rfl rfl ?_
    refine q_getR hJ dX6_spare_20 (q := 23) rfl fl_X6_11 rfl (by assumption) (by assumption) rfl ?_
    refine q_aload_n hJ dX6_spare_23 (q := 24) rfl rfl rfl ?_
    refine q_getI hJ dX6_spare_24 (q := 27) rfl fl_X6_22 rfl (by assumption) hc ?_
    refine q_aald hJ dX6_spare_27 (q := 28) rfl (by assumption) (by decide) (ix_nI hlt (by decide)) (hQ m hlt).1 rfl ?_
    refine q_goto hJ (tgt := 32) dX6_spare_28 (by decide) ?_
    refine q_aret hM dX6_spare_32 rfl rfl ?_
    exact ⟨by rw [if_pos hlt], rfl, rfl, rfl⟩

set_option maxRecDepth 100000 in
set_option maxHeartbeats 400000 in
theorem S_rankOf (b m r : Nat) (Q : Nat → Nat) (I : MI) (R : MR) (hB : isB b) (hFR : FR R) (hU : US I R b Q m) (hr : r < m) : Sp 1 0 0 mX6_rankOf [.ref (b + 23), .int (nI r)] g0 I R (Rt (some (.int (I (Q r) 2))) g0 I R) := by
  obtain ⟨hc, hn, hQ⟩ := id hU
  have hka := ka_rls hB
  have hkw := ka_rla hB
  have hkn := ka_num hB
  have hr0 : R (b + 23) 0 = some (b + 24) := (hFR.1 b hB).2.2.2.2.1
  have hr1 : R (b + 23) 1 = some (b + 25) := (hFR.1 b hB).2.2.2.2.2.1
  refine Sp.on (by decide +kernel) rfl rfl (fun J hM => ?_)
  have hJ := hM.ok
  refine q_aload_n hJ dX6_rankOf_0 (q := 1) rfl rfl rfl ?_
  refine q_iload_n hJ dX6_rankOf_1 (q := 2) rfl rfl ?_
  refine q_callV hJ dX6_rankOf_2 (q := 5) rfl (S_ruleOf b m Q (nI r) I R hB hFR hU) imX6_ruleOf ln_X6_30 (by assumption) (by decide) rfl rfl rfl rfl (Nat.le_of_ble_eq_true rfl) (by decide) (by decide) rfl rfl (fun rv gv Iv Rv hv => ?_)
  obtain ⟨rfl, rfl, rfl, rfl⟩ := hv
  rw [rowAtF_in12 hr hn]
  refine q_astore_n hJ dX6_rankOf_5 (q := 6) rfl (by decide) rfl ?_
  refine q_aload_n hJ dX6_rankOf_6 (q := 7) rfl rfl rfl ?_
  refine q_nonnullN hJ (tgt := 16) dX6_rankOf_7 (by decide) ?_
  refine q_aload_n hJ dX6_rankOf_16 (q := 17) rfl rfl rfl ?_
  refine q_getI hJ dX6_rankOf_17 (q := 20) rfl fl_X6_48 rfl (ka_rul hB (hQ r (by omega)).2.1 (hQ r (by omega)).2.2.1) rfl ?_
  refine q_iret hM dX6_rankOf_20 rfl rfl ?_
  exact ⟨rfl, rfl, rfl, rfl⟩

set_option maxRecDepth 100000 in
set_option maxHeartbeats 400000 in
theorem S_countOn (b m : Nat) (Q : Nat → Nat) (I : MI) (R : MR) (hB : isB b) (hFR : FR R) (hU : US I R b Q m) : Sp 1 0 0 mX6_countOn [.ref (b + 23)] g0 I R (Rt (some (.int (nI (coF (fun j => I (Q j) 10) m)))) g0 I R) := by
  obtain ⟨hc, hn, hQ⟩ := id hU
  have hka := ka_rls hB
  have hkw := ka_rla hB
  have hkn := ka_num hB
  have hr0 : R (b + 23) 0 = some (b + 24) := (hFR.1 b hB).2.2.2.2.1
  have hr1 : R (b + 23) 1 = some (b + 25) := (hFR.1 b hB).2.2.2.2.2.1
  refine Sp.on (by decide +kernel) rfl rfl (fun J hM => ?_)
  have hJ := hM.ok
  have loop : ∀ (k j : Nat) (w : Option Value), j + k = m → J 0 0 4 [some (.ref (b + 23)), some (.int (nI (coF (fun j => I (Q j) 10) j))), some (.int (nI j)), w] [] g0 I R := by
    intro k
    induction k with
    | zero =>
      intro j w hj
      refine q_iload_n hJ dX6_countOn_4 (q := 5) rfl rfl ?_
      refine q_aload_n hJ dX6_countOn_5 (q := 6) rfl rfl rfl ?_
      refine q_getI hJ dX6_countOn_6 (q := 9) rfl fl_X6_22 rfl (by assumption) hc ?_
      refine q_icmp_ge hJ (tgt := 38) dX6_countOn_9 (q := 12) rfl (by decide) (fun _ => ?_) (fun c1 => absurd ((nI_leI (by omega) (by omega)).mpr (by omega)) c1)
      refine q_iload_n hJ dX6_countOn_38 (q := 39) rfl rfl ?_
      refine q_iret hM dX6_countOn_39 rfl rfl ?_
      obtain rfl : j = m := by omega
      exact ⟨rfl, rfl, rfl, rfl⟩
    | succ k ih =>
      intro j w hj
      refine q_iload_n hJ dX6_countOn_4 (q := 5) rfl rfl ?_
      refine q_aload_n hJ dX6_countOn_5 (q := 6) rfl rfl rfl ?_
      refine q_getI hJ dX6_countOn_6 (q := 9) rfl fl_X6_22 rfl (by assumption) hc ?_
      refine q_icmp_ge hJ (tgt := 38) dX6_countOn_9 (q := 12) rfl (by decide) (fun c1 => absurd ((nI_leI (by omega) (by omega)).mp c1) (by omega)) (fun _ => ?_)
      refine q_aload_n hJ dX6_countOn_12 (q := 13) rfl rfl rfl ?_
      refine q_iload_n hJ dX6_countOn_13 (q := 14) rfl rfl ?_
      refine q_callV hJ dX6_countOn_14 (q := 17) rfl (S_ruleOf b m Q (nI j) I R hB hFR hU) imX6_ruleOf ln_X6_30 (by assumption) (by decide) rfl rfl rfl rfl (Nat.le_of_ble_eq_true rfl) (by decide) (by decide) rfl rfl (fun rv gv Iv Rv hv => ?_)
      obtain ⟨rfl, rfl, rfl, rfl⟩ := hv
      rw [rowAtF_in12 (by omega) hn]
      refine q_astore_n hJ dX6_countOn_17 (q := 18) rfl (by decide) rfl ?_
      refine q_aload_n hJ dX6_countOn_18 (q := 19) rfl rfl rfl ?_
      refine q_nullN hJ dX6_countOn_19 (q := 22) rfl ?_
      refine q_aload_n hJ dX6_countOn_22 (q := 23) rfl rfl rfl ?_
      refine q_getI hJ dX6_countOn_23 (q := 26) rfl fl_X6_38 rfl (ka_rul hB (hQ j (by omega)).2.1 (hQ j (by omega)).2.2.1) rfl ?_
      refine q_if_eq hJ (tgt := 32) dX6_countOn_26 (q := 29) rfl (by decide) (fun c2 => ?_) (fun c2 => ?_)
      · refine q_iinc hJ dX6_countOn_32 (q := 35) rfl (by decide) rfl (nI_1 j) ?_
        refine q_goto hJ (tgt := 4) dX6_countOn_35 (by decide) ?_
        have e : coF (fun j => I (Q j) 10) (j + 1) = coF (fun j => I (Q j) 10) j + (if I (Q j) 10 = 0 then 0 else 1) := rfl
        first | rw [if_pos c2] at e | rw [if_neg c2] at e
        first | rw [← e] | (rw [show coF (fun j => I (Q j) 10) j = coF (fun j => I (Q j) 10) (j + 1) from e.symm])
        exact ih (j + 1) _ (by omega)
      · refine q_iinc hJ dX6_countOn_29 (q := 32) rfl (by decide) rfl (nI_1 _) ?_
        refine q_iinc hJ dX6_countOn_32 (q := 35) rfl (by decide) rfl (nI_1 j) ?_
        refine q_goto hJ (tgt := 4) dX6_countOn_35 (by decide) ?_
        have e : coF (fun j => I (Q j) 10) (j + 1) = coF (fun j => I (Q j) 10) j + (if I (Q j) 10 = 0 then 0 else 1) := rfl
        first | rw [if_pos c2] at e | rw [if_neg c2] at e
        first | rw [← e] | (rw [show coF (fun j => I (Q j) 10) j = coF (fun j => I (Q j) 10) (j + 1) from e.symm])
        exact ih (j + 1) _ (by omega)
  refine q_iconst hJ (v := 0) dX6_countOn_0 (q := 1) rfl (by decide) ?_
  refine q_istore_n hJ dX6_countOn_1 (q := 2) rfl (by decide) ?_
  refine q_iconst hJ (v := 0) dX6_countOn_2 (q := 3) rfl (by decide) ?_
  refine q_istore_n hJ dX6_countOn_3 (q := 4) rfl (by decide) ?_
  exact loop m 0 none (by omega)

set_option maxRecDepth 100000 in
set_option maxHeartbeats 400000 in
theorem S_among (b m : Nat) (Q od : Nat → Nat) (ev mo wd : Int32) (I : MI) (R : MR) (hB : isB b) (hFR : FR R) (hU : US I R b Q m) (hod : ∀ j, j < m → I (b + 25) j = nI (od j) ∧ od j < m) : Sp 1 0 0 mX6_numberAmong [.ref (b + 23), .int ev, .int mo, .int wd] g0 I R (Rt (some (.int (noI (amF (fun r => I (Q r) 0 = ev ∧ I (Q r) 1 = mo) od wd 0 m 0)))) g0 I R) := by
  obtain ⟨hc, hn, hQ⟩ := id hU
  have hka := ka_rls hB
  have hkw := ka_rla hB
  have hkn := ka_num hB
  have hr0 : R (b + 23) 0 = some (b + 24) := (hFR.1 b hB).2.2.2.2.1
  have hr1 : R (b + 23) 1 = some (b + 25) := (hFR.1 b hB).2.2.2.2.2.1
  refine Sp.on (by decide +kernel) rfl rfl (fun J hM => ?_)
  have hJ := hM.ok
  have loop : ∀ (k j c : Nat) (w1 w2 : Option Value), j + k = m → c ≤ j → amF (fun r => I (Q r) 0 = ev ∧ I (Q r) 1 = mo) od wd 0 m 0 = amF (fun r => I (Q r) 0 = ev ∧ I (Q r) 1 = mo) od wd j k c → J 0 0 6 [some (.ref (b + 23)), some (.int ev), some (.int mo), some (.int wd), some (.int (nI c)), some (.int (nI j)), w1, w2] [] g0 I R := by
    intro k
    induction k with
    | zero =>
      intro j c w1 w2 hj hcj hf
      refine q_iload hJ dX6_numberAmong_6 (q := 8) rfl rfl ?_
      refine q_aload_n hJ dX6_numberAmong_8 (q := 9) rfl rfl rfl ?_
      refine q_getI hJ dX6_numberAmong_9 (q := 12) rfl fl_X6_22 rfl (by assumption) hc ?_
      refine q_icmp_ge hJ (tgt := 64) dX6_numberAmong_12 (q := 15) rfl (by decide) (fun _ => ?_) (fun c1 => absurd ((nI_leI (by omega) (by omega)).mpr (by omega)) c1)
      refine q_sipush hJ (v := (-1006)) dX6_numberAmong_64 (q := 67) rfl (by decide) ?_
      refine q_iret hM dX6_numberAmong_67 rfl rfl ?_
      exact ⟨by rw [hf]; rfl, rfl, rfl, rfl⟩
    | succ k ih =>
      intro j c w1 w2 hj hcj hf
      have hkq := ka_rul hB (hQ (od j) (by have := (hod j (by omega)).2; omega)).2.1 (hQ (od j) (by have := (hod j (by omega)).2; omega)).2.2.1
      refine q_iload hJ dX6_numberAmong_6 (q := 8) rfl rfl ?_
      refine q_aload_n hJ dX6_numberAmong_8 (q := 9) rfl rfl rfl ?_
      refine q_getI hJ dX6_numberAmong_9 (q := 12) rfl fl_X6_22 rfl (by assumption) hc ?_
      refine q_icmp_ge hJ (tgt := 64) dX6_numberAmong_12 (q := 15) rfl (by decide) (fun c1 => absurd ((nI_leI (by omega) (by omega)).mp c1) (by omega)) (fun _ => ?_)
      refine q_aload_n hJ dX6_numberAmong_15 (q := 16) rfl rfl rfl ?_
      refine q_iload hJ dX6_numberAmong_16 (q := 18) rfl rfl ?_
      refine q_callV hJ dX6_numberAmong_18 (q := 21) rfl (S_numberAt b m Q (nI j) I R hB hFR hU) imX6_numberAt ln_X6_26 (by assumption) (by decide) rfl rfl rfl rfl (Nat.le_of_ble_eq_true rfl) (by decide) (by decide) rfl rfl (fun rv gv Iv Rv hv => ?_)
      obtain ⟨rfl, rfl, rfl, rfl⟩ := hv
      rw [numF_in (by omega) hn, (hod j (by omega)).1]
      refine q_istore hJ dX6_numberAmong_21 (q := 23) rfl (by decide) ?_
      refine q_aload_n hJ dX6_numberAmong_23 (q := 24) rfl rfl rfl ?_
      refine q_iload hJ dX6_numberAmong_24 (q := 26) rfl rfl ?_
      refine q_callV hJ dX6_numberAmong_26 (q := 29) rfl (S_ruleOf b m Q (nI (od j)) I R hB hFR hU) imX6_ruleOf ln_X6_30 (by assumption) (by decide) rfl rfl rfl rfl (Nat.le_of_ble_eq_true rfl) (by decide) (by decide) rfl rfl (fun rv gv Iv Rv hv => ?_)
      obtain ⟨rfl, rfl, rfl, rfl⟩ := hv
      rw [rowAtF_in12 (hod j (by omega)).2 hn]
      refine q_astore hJ dX6_numberAmong_29 (q := 31) rfl (by decide) rfl ?_
      refine q_aload hJ dX6_numberAmong_31 (q := 33) rfl rfl rfl ?_
      refine q_nullN hJ dX6_numberAmong_33 (q := 36) rfl ?_
      refine q_aload hJ dX6_numberAmong_36 (q := 38) rfl rfl rfl ?_
      refine q_iload_n hJ dX6_numberAmong_38 (q := 39) rfl rfl ?_
      refine q_iload_n hJ dX6_numberAmong_39 (q := 40) rfl rfl ?_
      refine q_callV hJ dX6_numberAmong_40 (q := 43) rfl (S_isFor (Q (od j)) ev mo I R hkq) imX5_isFor ln_X6_34 hkq (by decide) rfl rfl rfl rfl (Nat.le_of_ble_eq_true rfl) (by decide) (by decide) rfl rfl (fun rv gv Iv Rv hv => ?_)
      obtain ⟨rfl, rfl, rfl, rfl⟩ := hv
      refine q_if_eq hJ (tgt := 58) dX6_numberAmong_43 (q := 46) rfl (by decide) (fun c2 => ?_) (fun c2 => ?_)
      · refine q_iinc hJ dX6_numberAmong_58 (q := 61) rfl (by decide) rfl (nI_1 j) ?_
        refine q_goto hJ (tgt := 6) dX6_numberAmong_61 (by decide) ?_
        first
          | exact ih (j + 1) (c + 1) _ _ (by omega) (by omega) (by rw [hf, amF, if_pos c2t, if_neg c3])
          | exact ih (j + 1) c _ _ (by omega) (by omega) (by rw [hf, amF, if_neg (fun z => by rw [if_pos z] at c2; exact absurd c2 (by decide))])
      · have c2t : I (Q (od j)) 0 = ev ∧ I (Q (od j)) 1 = mo := by
          refine Decidable.byContradiction fun z => ?_
          rw [if_neg z] at c2
          exact c2 rfl
        refine q_iload hJ dX6_numberAmong_46 (q := 48) rfl rfl ?_
        refine q_iload_n hJ dX6_numberAmong_48 (q := 49) rfl rfl ?_
        refine q_icmp_ne hJ (tgt := 55) dX6_numberAmong_49 (q := 52) rfl (by decide) (fun c3 => ?_) (fun c3 => ?_)
        · refine q_iinc hJ dX6_numberAmong_55 (q := 58) rfl (by decide) rfl (nI_1 _) ?_
          refine q_iinc hJ dX6_numberAmong_58 (q := 61) rfl (by decide) rfl (nI_1 j) ?_
          refine q_goto hJ (tgt := 6) dX6_numberAmong_61 (by decide) ?_
          first
            | exact ih (j + 1) (c + 1) _ _ (by omega) (by omega) (by rw [hf, amF, if_pos c2t, if_neg c3])
            | exact ih (j + 1) c _ _ (by omega) (by omega) (by rw [hf, amF, if_neg (fun z => by rw [if_pos z] at c2; exact absurd c2 (by decide))])
        · refine q_iload hJ dX6_numberAmong_52 (q := 54) rfl rfl ?_
          refine q_iret hM dX6_numberAmong_54 rfl rfl ?_
          exact ⟨by rw [hf, amF, if_pos c2t, if_pos c3]; rfl, rfl, rfl, rfl⟩
  refine q_iconst hJ (v := 0) dX6_numberAmong_0 (q := 1) rfl (by decide) ?_
  refine q_istore hJ dX6_numberAmong_1 (q := 3) rfl (by decide) ?_
  refine q_iconst hJ (v := 0) dX6_numberAmong_3 (q := 4) rfl (by decide) ?_
  refine q_istore hJ dX6_numberAmong_4 (q := 6) rfl (by decide) ?_
  exact loop m 0 0 none none (by omega) (by omega) rfl

