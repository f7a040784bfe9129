/-! THE TEXT -/
abbrev PS : Type := Nat × Bool
def TX (I : MI) (tx : Nat → Int32) (n : Nat) (P : PS) : Prop := I 315 1 = nI n ∧ n ≤ 80 ∧ P.1 ≤ n ∧ (∀ i, i < n → I 316 i = tx i) ∧ I 315 2 = nI P.1 ∧ I 315 3 = if P.2 = true then 1 else 0
def TW (I : MI) (tx : Nat → Int32) (n : Nat) : Prop := I 315 1 = nI n ∧ n ≤ 80 ∧ ∀ i, i < n → I 316 i = tx i
def hereF (tx : Nat → Int32) (n : Nat) (P : PS) : Int32 := if P.2 = true then -1 else if n ≤ P.1 then -1 else tx P.1
def dgF (c m : Int32) : Int32 := if c < 48 then 0 else if 48 + m < c then 0 else 1
def passF (tx : Nat → Int32) (n : Nat) (c : Int32) (P : PS) : PS := if hereF tx n P = c then (P.1 + 1, P.2) else (P.1, true)
def digF (tx : Nat → Int32) (n : Nat) (m : Int32) (P : PS) : Int32 × PS := if dgF (hereF tx n P) m = 0 then (0, (P.1, true)) else (hereF tx n P - 48, (P.1 + 1, P.2))
def nmF (tx : Nat → Int32) (n : Nat) : Nat → Int32 → PS → Int32 × PS
  | 0, v, P => (v, P)
  | k + 1, v, P => if 0 < v then (if dgF (hereF tx n P) 9 = 0 then (v, P) else nmF tx n k (v * 10 + (digF tx n 9 P).1) (digF tx n 9 P).2) else (v, P)
def numF2 (tx : Nat → Int32) (n m : Nat) (P : PS) : Int32 × PS := nmF tx n (m - 1) (digF tx n 9 P).1 (digF tx n 9 P).2
def valF2 (tx : Nat → Int32) (n : Nat) (P : PS) : Int32 × PS := if hereF tx n P = 45 then (-(numF2 tx n 3 (P.1 + 1, P.2)).1, (numF2 tx n 3 (P.1 + 1, P.2)).2) else numF2 tx n 3 P
def TxPo (tx : Nat → Int32) (n : Nat) (P : PS) (v : Option Value) (I : MI) (R : MR) : Po := fun r g' I' R' => r = v ∧ g0 = g' ∧ R = R' ∧ TX I' tx n P ∧ (∀ a, a ≠ 315 → I' a = I a) ∧ ∀ k, k ≠ 2 → k ≠ 3 → I' 315 k = I 315 k
theorem dgF_01 (c m : Int32) : dgF c m = 0 ∨ dgF c m = 1 := by
  unfold dgF
  split
  · exact Or.inl rfl
  · split
    · exact Or.inl rfl
    · exact Or.inr rfl
theorem ka315 : KA g0 315 9 0 := ka0 (by decide)
theorem ka316 : KA g0 316 12 80 := ka0 (by decide)
theorem nI_80 : (80 : Int32) = nI 80 := by decide
theorem here_lt {tx : Nat → Int32} {n : Nat} {P : PS} (h : ¬ hereF tx n P = -1) : P.2 = false ∧ P.1 < n ∧ hereF tx n P = tx P.1 := by
  unfold hereF at h ⊢
  by_cases h1 : P.2 = true
  · rw [if_pos h1] at h; exact absurd rfl h
  · rw [if_neg h1] at h ⊢
    by_cases h2 : n ≤ P.1
    · rw [if_pos h2] at h; exact absurd rfl h
    · rw [if_neg h2]
      exact ⟨by simpa using h1, by omega, rfl⟩
theorem dg_here {tx : Nat → Int32} {n : Nat} {P : PS} {m : Int32} (h : ¬ dgF (hereF tx n P) m = 0) : ¬ hereF tx n P = -1 := fun z => h (by rw [z]; unfold dgF; rw [if_pos (by decide)])
theorem TX.pos {I : MI} {tx : Nat → Int32} {n : Nat} {P : PS} (h : TX I tx n P) (hl : P.1 < n) : TX (up2 I 315 2 (nI (P.1 + 1))) tx n (P.1 + 1, P.2) := by
  obtain ⟨h1, h2, h3, h4, h5, h6⟩ := h
  exact ⟨by simp [up2_app, h1], h2, by show P.1 + 1 ≤ n; omega, fun i hi => by simp [up2_app, h4 i hi], by simp [up2_app], by simp [up2_app, h6]⟩
theorem TX.bad {I : MI} {tx : Nat → Int32} {n : Nat} {P : PS} (h : TX I tx n P) : TX (up2 I 315 3 1) tx n (P.1, true) := by
  obtain ⟨h1, h2, h3, h4, h5, h6⟩ := h
  exact ⟨by simp [up2_app, h1], h2, h3, fun i hi => by simp [up2_app, h4 i hi], by simp [up2_app, h5], by simp [up2_app]⟩
theorem t_o {I : MI} {k : Nat} {v : Int32} : ∀ a, a ≠ 315 → up2 I 315 k v a = I a := fun a ha => up2_other _ _ _ _ ha
theorem t_k {I : MI} {k : Nat} {v : Int32} (hk : k = 2 ∨ k = 3) : ∀ j, j ≠ 2 → j ≠ 3 → up2 I 315 k v 315 j = I 315 j := fun j h2 h3 => by
  rw [up2_app, if_neg (fun z => by omega)]
set_option maxRecDepth 100000 in
set_option maxHeartbeats 400000 in
theorem S_isDigit (c m : Int32) (I : MI) (R : MR) : Sp 0 0 0 mX9_isDigit [.int c, .int m] g0 I R (Rt (some (.int (dgF c m))) g0 I R) := by
  refine Sp.on (by decide +kernel) rfl rfl (fun J hM => ?_)
  have hJ := hM.ok
  refine q_iload_n hJ dX9_isDigit_0 (q := 1) rfl rfl ?_
  refine q_bipush hJ (v := 48) dX9_isDigit_1 (q := 3) rfl (by decide) ?_
  refine q_icmp_lt hJ (tgt := 18) dX9_isDigit_3 (q := 6) rfl (by decide) (fun c1 => ?_) (fun c1 => ?_)
  · refine q_iconst hJ (v := 0) dX9_isDigit_18 (q := 19) rfl (by decide) ?_
    refine q_iret hM dX9_isDigit_19 rfl (nz rfl (by decide)) ?_
    exact ⟨by simp [dgF, *], rfl, rfl, rfl⟩
  · refine q_iload_n hJ dX9_isDigit_6 (q := 7) rfl rfl ?_
    refine q_bipush hJ (v := 48) dX9_isDigit_7 (q := 9) rfl (by decide) ?_
    refine q_iload_n hJ dX9_isDigit_9 (q := 10) rfl rfl ?_
    refine q_iadd hJ dX9_isDigit_10 (q := 11) rfl ?_
    refine q_icmp_gt hJ (tgt := 18) dX9_isDigit_11 (q := 14) rfl (by decide) (fun c2 => ?_) (fun c2 => ?_)
    · refine q_iconst hJ (v := 0) dX9_isDigit_18 (q := 19) rfl (by decide) ?_
      refine q_iret hM dX9_isDigit_19 rfl (nz rfl (by decide)) ?_
      exact ⟨by simp [dgF, *], rfl, rfl, rfl⟩
    · refine q_iconst hJ (v := 1) dX9_isDigit_14 (q := 15) rfl (by decide) ?_
      refine q_goto hJ (tgt := 19) dX9_isDigit_15 (by decide) ?_
      refine q_iret hM dX9_isDigit_19 rfl (nz rfl (by decide)) ?_
      exact ⟨by simp [dgF, *], rfl, rfl, rfl⟩

set_option maxRecDepth 100000 in
set_option maxHeartbeats 400000 in
theorem S_here (tx : Nat → Int32) (n : Nat) (P : PS) (I : MI) (R : MR) (hFR : FR R) (hT : TX I tx n P) : Sp 0 0 0 mX9_here [.ref 315] g0 I R (Rt (some (.int (hereF tx n P))) g0 I R) := by
  have hk := ka315
  have hk6 := ka316
  have hr := hFR.2.2.2.1.2
  obtain ⟨h1, h2, h3, h4, h5, h6⟩ := id hT
  refine Sp.on (by decide +kernel) rfl rfl (fun J hM => ?_)
  have hJ := hM.ok
  refine q_aload_n hJ dX9_here_0 (q := 1) rfl rfl rfl ?_
  refine q_getI hJ dX9_here_1 (q := 4) rfl fl_X9_22 rfl (by assumption) h6 ?_
  refine q_if_ne hJ (tgt := 37) dX9_here_4 (q := 7) rfl (by decide) (fun c1 => ?_) (fun c1 => ?_)
  · refine q_iconst hJ (v := (-1)) dX9_here_37 (q := 38) rfl (by decide) ?_
    refine q_iret hM dX9_here_38 rfl rfl ?_
    exact ⟨by
      unfold hereF
      by_cases hb : P.2 = true
      · rw [if_pos hb]
      · rw [if_neg hb, if_pos]
        first | exact (nI_leI (by omega) (by omega)).mp c3 | (rw [if_neg hb] at c1; exact absurd rfl c1), rfl, rfl, rfl⟩
  · refine q_aload_n hJ dX9_here_7 (q := 8) rfl rfl rfl ?_
    refine q_getI hJ dX9_here_8 (q := 11) rfl fl_X9_19 rfl (by assumption) h5 ?_
    refine q_if_lt hJ (tgt := 37) dX9_here_11 (q := 14) rfl (by decide) (fun c2 => absurd c2 (nI_pos (by omega))) (fun _ => ?_)
    refine q_aload_n hJ dX9_here_14 (q := 15) rfl rfl rfl ?_
    refine q_getI hJ dX9_here_15 (q := 18) rfl fl_X9_19 rfl (by assumption) h5 ?_
    refine q_aload_n hJ dX9_here_18 (q := 19) rfl rfl rfl ?_
    refine q_getI hJ dX9_here_19 (q := 22) rfl fl_X9_15 rfl (by assumption) h1 ?_
    refine q_icmp_ge hJ (tgt := 37) dX9_here_22 (q := 25) rfl (by decide) (fun c3 => ?_) (fun c3 => ?_)
    · refine q_iconst hJ (v := (-1)) dX9_here_37 (q := 38) rfl (by decide) ?_
      refine q_iret hM dX9_here_38 rfl rfl ?_
      exact ⟨by
        unfold hereF
        by_cases hb : P.2 = true
        · rw [if_pos hb]
        · rw [if_neg hb, if_pos]
          first | exact (nI_leI (by omega) (by omega)).mp c3 | (rw [if_neg hb] at c1; exact absurd rfl c1), rfl, rfl, rfl⟩
    · have hpn : P.1 < n := (nI_ltI (by omega) (by omega)).mp (Int32.not_le.mp c3)
      refine q_aload_n hJ dX9_here_25 (q := 26) rfl rfl rfl ?_
      refine q_getI hJ dX9_here_26 (q := 29) rfl fl_X9_19 rfl (by assumption) h5 ?_
      refine q_aload_n hJ dX9_here_29 (q := 30) rfl rfl rfl ?_
      refine q_getR hJ dX9_here_30 (q := 33) rfl fl_X9_9 rfl (by assumption) hr rfl ?_
      refine q_alen hJ (v := 80) dX9_here_33 (q := 34) rfl hk6 (by decide) (by decide) (by decide) ?_
      refine q_icmp_lt hJ (tgt := 39) dX9_here_34 (q := 37) rfl (by decide) (fun _ => ?_) (fun c4 => absurd (by rw [nI_80]; exact (nI_ltI (by omega) (by decide)).mpr (by omega)) c4)
      refine q_aload_n hJ dX9_here_39 (q := 40) rfl rfl rfl ?_
      refine q_getR hJ dX9_here_40 (q := 43) rfl fl_X9_9 rfl (by assumption) hr rfl ?_
      refine q_aload_n hJ dX9_here_43 (q := 44) rfl rfl rfl ?_
      refine q_getI hJ dX9_here_44 (q := 47) rfl fl_X9_19 rfl (by assumption) h5 ?_
      refine q_cald hJ dX9_here_47 (q := 48) rfl hk6 (ix_nI (by omega) (by decide)) (h4 P.1 hpn) ?_
      refine q_iret hM dX9_here_48 rfl rfl ?_
      have hb : ¬ P.2 = true := fun z => by rw [if_pos z] at c1; exact absurd c1 (by decide)
      exact ⟨by rw [hereF, if_neg hb, if_neg (by omega)], rfl, rfl, rfl⟩

set_option maxRecDepth 100000 in
set_option maxHeartbeats 400000 in
theorem S_pass (tx : Nat → Int32) (n : Nat) (P : PS) (c : Int32) (I : MI) (R : MR) (hFR : FR R) (hT : TX I tx n P) (hc : ¬ c = -1) : Sp 1 0 0 mX9_pass [.ref 315, .int c] g0 I R (TxPo tx n (passF tx n c P) none I R) := by
  have hk := ka315
  have hk6 := ka316
  have hr := hFR.2.2.2.1.2
  obtain ⟨h1, h2, h3, h4, h5, h6⟩ := id hT
  refine Sp.on (by decide +kernel) rfl rfl (fun J hM => ?_)
  have hJ := hM.ok
  refine q_aload_n hJ dX9_pass_0 (q := 1) rfl rfl rfl ?_
  refine q_callV hJ dX9_pass_1 (q := 4) rfl (S_here tx n P I R hFR hT) imX9_here ln_X9_36 (by assumption) (by decide) rfl rfl rfl rfl (Nat.le_of_ble_eq_true rfl) (by decide) (by decide) rfl rfl (fun rv gv Iv Rv hv => ?_)
  obtain ⟨rfl, rfl, rfl, rfl⟩ := hv
  refine q_iload_n hJ dX9_pass_4 (q := 5) rfl rfl ?_
  refine q_icmp_ne hJ (tgt := 21) dX9_pass_5 (q := 8) rfl (by decide) (fun c1 => ?_) (fun c1 => ?_)
  · refine q_aload_n hJ dX9_pass_21 (q := 22) rfl rfl rfl ?_
    refine q_iconst hJ (v := 1) dX9_pass_22 (q := 23) rfl (by decide) ?_
    refine q_putI hJ dX9_pass_23 (q := 26) rfl fl_X9_22 rfl rfl (by assumption) (by decide) (by decide) ?_
    refine q_vret hM dX9_pass_26 rfl ?_
    first
      | (rw [show passF tx n c P = (P.1 + 1, P.2) from if_pos c1]; exact ⟨rfl, rfl, rfl, hT.pos e2, t_o, t_k (Or.inl rfl)⟩)
      | (rw [show passF tx n c P = (P.1, true) from if_neg c1]; exact ⟨rfl, rfl, rfl, hT.bad, t_o, t_k (Or.inr rfl)⟩)
  · obtain ⟨e1, e2, e3⟩ := here_lt (by rw [c1]; exact hc : ¬ hereF tx n P = -1)
    refine q_aload_n hJ dX9_pass_8 (q := 9) rfl rfl rfl ?_
    refine q_dup hJ dX9_pass_9 (q := 10) rfl rfl ?_
    refine q_getI hJ dX9_pass_10 (q := 13) rfl fl_X9_19 rfl (by assumption) h5 ?_
    refine q_iconst hJ (v := 1) dX9_pass_13 (q := 14) rfl (by decide) ?_
    refine q_iadd hJ dX9_pass_14 (q := 15) rfl ?_
    rw [nI_1]
    refine q_putI hJ dX9_pass_15 (q := 18) rfl fl_X9_19 rfl rfl (by assumption) rfl rfl ?_
    refine q_goto hJ (tgt := 26) dX9_pass_18 (by decide) ?_
    refine q_vret hM dX9_pass_26 rfl ?_
    first
      | (rw [show passF tx n c P = (P.1 + 1, P.2) from if_pos c1]; exact ⟨rfl, rfl, rfl, hT.pos e2, t_o, t_k (Or.inl rfl)⟩)
      | (rw [show passF tx n c P = (P.1, true) from if_neg c1]; exact ⟨rfl, rfl, rfl, hT.bad, t_o, t_k (Or.inr rfl)⟩)

set_option maxRecDepth 100000 in
set_option maxHeartbeats 400000 in
theorem S_readDigit (tx : Nat → Int32) (n : Nat) (P : PS) (m : Int32) (I : MI) (R : MR) (hFR : FR R) (hT : TX I tx n P) : Sp 1 0 0 mX9_readDigit [.ref 315, .int m] g0 I R (TxPo tx n (digF tx n m P).2 (some (.int (digF tx n m P).1)) I R) := by
  have hk := ka315
  have hk6 := ka316
  have hr := hFR.2.2.2.1.2
  obtain ⟨h1, h2, h3, h4, h5, h6⟩ := id hT
  refine Sp.on (by decide +kernel) rfl rfl (fun J hM => ?_)
  have hJ := hM.ok
  refine q_aload_n hJ dX9_readDigit_0 (q := 1) rfl rfl rfl ?_
  refine q_callV hJ dX9_readDigit_1 (q := 4) rfl (S_here tx n P I R hFR hT) imX9_here ln_X9_36 (by assumption) (by decide) rfl rfl rfl rfl (Nat.le_of_ble_eq_true rfl) (by decide) (by decide) rfl rfl (fun rv gv Iv Rv hv => ?_)
  obtain ⟨rfl, rfl, rfl, rfl⟩ := hv
  refine q_istore_n hJ dX9_readDigit_4 (q := 5) rfl (by decide) ?_
  refine q_iload_n hJ dX9_readDigit_5 (q := 6) rfl rfl ?_
  refine q_iload_n hJ dX9_readDigit_6 (q := 7) rfl rfl ?_
  refine q_callS hJ dX9_readDigit_7 (q := 10) rfl (S_isDigit (hereF tx n P) m I R) imX9_isDigit ln_X9_74 rfl rfl rfl (Nat.le_of_ble_eq_true rfl) (by decide) (by decide) rfl rfl (fun rv gv Iv Rv hv => ?_)
  obtain ⟨rfl, rfl, rfl, rfl⟩ := hv
  refine q_if_ne hJ (tgt := 20) dX9_readDigit_10 (q := 13) rfl (by decide) (fun c1 => ?_) (fun c1 => ?_)
  · obtain ⟨e1, e2, e3⟩ := here_lt (dg_here c1)
    refine q_aload_n hJ dX9_readDigit_20 (q := 21) rfl rfl rfl ?_
    refine q_dup hJ dX9_readDigit_21 (q := 22) rfl rfl ?_
    refine q_getI hJ dX9_readDigit_22 (q := 25) rfl fl_X9_19 rfl (by assumption) h5 ?_
    refine q_iconst hJ (v := 1) dX9_readDigit_25 (q := 26) rfl (by decide) ?_
    refine q_iadd hJ dX9_readDigit_26 (q := 27) rfl ?_
    rw [nI_1]
    refine q_putI hJ dX9_readDigit_27 (q := 30) rfl fl_X9_19 rfl rfl (by assumption) rfl rfl ?_
    refine q_iload_n hJ dX9_readDigit_30 (q := 31) rfl rfl ?_
    refine q_bipush hJ (v := 48) dX9_readDigit_31 (q := 33) rfl (by decide) ?_
    refine q_isub hJ dX9_readDigit_33 (q := 34) rfl ?_
    refine q_iret hM dX9_readDigit_34 rfl rfl ?_
    have ed : digF tx n m P = (hereF tx n P - 48, (P.1 + 1, P.2)) := if_neg c1
    rw [ed]
    exact ⟨rfl, rfl, rfl, hT.pos e2, t_o, t_k (Or.inl rfl)⟩
  · refine q_aload_n hJ dX9_readDigit_13 (q := 14) rfl rfl rfl ?_
    refine q_iconst hJ (v := 1) dX9_readDigit_14 (q := 15) rfl (by decide) ?_
    refine q_putI hJ dX9_readDigit_15 (q := 18) rfl fl_X9_22 rfl rfl (by assumption) (by decide) (by decide) ?_
    refine q_iconst hJ (v := 0) dX9_readDigit_18 (q := 19) rfl (by decide) ?_
    refine q_iret hM dX9_readDigit_19 rfl rfl ?_
    have ed : digF tx n m P = (0, (P.1, true)) := if_pos c1
    rw [ed]
    exact ⟨rfl, rfl, rfl, hT.bad, t_o, t_k (Or.inr rfl)⟩

set_option maxRecDepth 100000 in
set_option maxHeartbeats 400000 in
theorem S_readNumber (tx : Nat → Int32) (n : Nat) (P : PS) (m : Nat) (I : MI) (R : MR) (hFR : FR R) (hT : TX I tx n P) (hm : 1 ≤ m ∧ m ≤ 3) : Sp 2 0 0 mX9_readNumber [.ref 315, .int (nI m)] g0 I R (TxPo tx n (numF2 tx n m P).2 (some (.int (numF2 tx n m P).1)) I R) := by
  have hk := ka315
  have hk6 := ka316
  have hr := hFR.2.2.2.1.2
  obtain ⟨h1, h2, h3, h4, h5, h6⟩ := id hT
  refine Sp.on (by decide +kernel) rfl rfl (fun J hM => ?_)
  have hJ := hM.ok
  have loop : ∀ (k j : Nat) (v : Int32) (P' : PS) (I' : MI), j + k = m → TX I' tx n P' → (∀ a, a ≠ 315 → I' a = I a) → (∀ k, k ≠ 2 → k ≠ 3 → I' 315 k = I 315 k) → numF2 tx n m P = nmF tx n k v P' → J 0 0 9 [some (.ref 315), some (.int (nI m)), some (.int v), some (.int (nI j))] [] g0 I' R := by
    intro k
    induction k with
    | zero =>
      intro j v P' I' hj hT' hO' hK' hf
      refine q_iload_n hJ dX9_readNumber_9 (q := 10) rfl rfl ?_
      refine q_iload_n hJ dX9_readNumber_10 (q := 11) rfl rfl ?_
      refine q_icmp_ge hJ (tgt := 48) dX9_readNumber_11 (q := 14) rfl (by decide) (fun _ => ?_) (fun c1 => absurd ((nI_leI (by omega) (by omega)).mpr (by omega)) c1)
      refine q_iload_n hJ dX9_readNumber_48 (q := 49) rfl rfl ?_
      refine q_iret hM dX9_readNumber_49 rfl rfl ?_
      rw [hf, nmF]
      exact ⟨rfl, rfl, rfl, hT', hO', hK'⟩
    | succ k ih =>
      intro j v P' I' hj hT' hO' hK' hf
      refine q_iload_n hJ dX9_readNumber_9 (q := 10) rfl rfl ?_
      refine q_iload_n hJ dX9_readNumber_10 (q := 11) rfl rfl ?_
      refine q_icmp_ge hJ (tgt := 48) dX9_readNumber_11 (q := 14) rfl (by decide) (fun c1 => absurd ((nI_leI (by omega) (by omega)).mp c1) (by omega)) (fun _ => ?_)
      refine q_iload_n hJ dX9_readNumber_14 (q := 15) rfl rfl ?_
      refine q_if_le hJ (tgt := 48) dX9_readNumber_15 (q := 18) rfl (by decide) (fun c2 => ?_) (fun c2 => ?_)
      · refine q_iload_n hJ dX9_readNumber_48 (q := 49) rfl rfl ?_
        refine q_iret hM dX9_readNumber_49 rfl rfl ?_
        first | rw [hf, nmF, if_neg (Int32.not_lt.mpr c2)] | rw [hf, nmF, if_pos (Int32.not_le.mp c2), if_pos c3]
        exact ⟨rfl, rfl, rfl, hT', hO', hK'⟩
      · refine q_aload_n hJ dX9_readNumber_18 (q := 19) rfl rfl rfl ?_
        refine q_callV hJ dX9_readNumber_19 (q := 22) rfl (S_here tx n P' I' R hFR hT') imX9_here ln_X9_36 (by assumption) (by decide) rfl rfl rfl rfl (Nat.le_of_ble_eq_true rfl) (by decide) (by decide) rfl rfl (fun rv gv Iv Rv hv => ?_)
        obtain ⟨rfl, rfl, rfl, rfl⟩ := hv
        refine q_bipush hJ (v := 9) dX9_readNumber_22 (q := 24) rfl (by decide) ?_
        refine q_callS hJ dX9_readNumber_24 (q := 27) rfl (S_isDigit (hereF tx n P') 9 I' R) imX9_isDigit ln_X9_74 rfl rfl rfl (Nat.le_of_ble_eq_true rfl) (by decide) (by decide) rfl rfl (fun rv gv Iv Rv hv => ?_)
        obtain ⟨rfl, rfl, rfl, rfl⟩ := hv
        refine q_if_eq hJ (tgt := 48) dX9_readNumber_27 (q := 30) rfl (by decide) (fun c3 => ?_) (fun c3 => ?_)
        · refine q_iload_n hJ dX9_readNumber_48 (q := 49) rfl rfl ?_
          refine q_iret hM dX9_readNumber_49 rfl rfl ?_
          first | rw [hf, nmF, if_neg (Int32.not_lt.mpr c2)] | rw [hf, nmF, if_pos (Int32.not_le.mp c2), if_pos c3]
          exact ⟨rfl, rfl, rfl, hT', hO', hK'⟩
        · refine q_iload_n hJ dX9_readNumber_30 (q := 31) rfl rfl ?_
          refine q_bipush hJ (v := 10) dX9_readNumber_31 (q := 33) rfl (by decide) ?_
          refine q_imul hJ dX9_readNumber_33 (q := 34) rfl ?_
          refine q_aload_n hJ dX9_readNumber_34 (q := 35) rfl rfl rfl ?_
          refine q_bipush hJ (v := 9) dX9_readNumber_35 (q := 37) rfl (by decide) ?_
          refine q_callV hJ dX9_readNumber_37 (q := 40) rfl (S_readDigit tx n P' 9 I' R hFR hT') imX9_readDigit ln_X9_68 (by assumption) (by decide) rfl rfl rfl rfl (Nat.le_of_ble_eq_true rfl) (by decide) (by decide) rfl rfl (fun rv gv Iv Rv hv => ?_)
          obtain ⟨rfl, rfl, rfl, hT2, hO2, hK2⟩ := hv
          refine q_iadd hJ dX9_readNumber_40 (q := 41) rfl ?_
          refine q_istore_n hJ dX9_readNumber_41 (q := 42) rfl (by decide) ?_
          refine q_iinc hJ dX9_readNumber_42 (q := 45) rfl (by decide) rfl (nI_1 j) ?_
          refine q_goto hJ (tgt := 9) dX9_readNumber_45 (by decide) ?_
          exact ih (j + 1) _ _ _ (by omega) hT2 (fun a ha => (hO2 a ha).trans (hO' a ha)) (fun k q1 q2 => (hK2 k q1 q2).trans (hK' k q1 q2)) (by rw [hf, nmF, if_pos (Int32.not_le.mp c2), if_neg c3])
  refine q_aload_n hJ dX9_readNumber_0 (q := 1) rfl rfl rfl ?_
  refine q_bipush hJ (v := 9) dX9_readNumber_1 (q := 3) rfl (by decide) ?_
  refine q_callV hJ dX9_readNumber_3 (q := 6) rfl (S_readDigit tx n P 9 I R hFR hT) imX9_readDigit ln_X9_68 (by assumption) (by decide) rfl rfl rfl rfl (Nat.le_of_ble_eq_true rfl) (by decide) (by decide) rfl rfl (fun rv gv Iv Rv hv => ?_)
  obtain ⟨rfl, rfl, rfl, hT1, hO1, hK1⟩ := hv
  refine q_istore_n hJ dX9_readNumber_6 (q := 7) rfl (by decide) ?_
  refine q_iconst hJ (v := 1) dX9_readNumber_7 (q := 8) rfl (by decide) ?_
  refine q_istore_n hJ dX9_readNumber_8 (q := 9) rfl (by decide) ?_
  exact loop (m - 1) 1 _ _ _ (by omega) hT1 hO1 hK1 rfl

set_option maxRecDepth 100000 in
set_option maxHeartbeats 400000 in
theorem S_readValue (tx : Nat → Int32) (n : Nat) (P : PS) (I : MI) (R : MR) (hFR : FR R) (hT : TX I tx n P) : Sp 3 0 0 mX9_readValue [.ref 315] g0 I R (TxPo tx n (valF2 tx n P).2 (some (.int (valF2 tx n P).1)) I R) := by
  have hk := ka315
  have hk6 := ka316
  have hr := hFR.2.2.2.1.2
  obtain ⟨h1, h2, h3, h4, h5, h6⟩ := id hT
  refine Sp.on (by decide +kernel) rfl rfl (fun J hM => ?_)
  have hJ := hM.ok
  refine q_aload_n hJ dX9_readValue_0 (q := 1) rfl rfl rfl ?_
  refine q_callV hJ dX9_readValue_1 (q := 4) rfl (S_here tx n P I R hFR hT) imX9_here ln_X9_36 (by assumption) (by decide) rfl rfl rfl rfl (Nat.le_of_ble_eq_true rfl) (by decide) (by decide) rfl rfl (fun rv gv Iv Rv hv => ?_)
  obtain ⟨rfl, rfl, rfl, rfl⟩ := hv
  refine q_bipush hJ (v := 45) dX9_readValue_4 (q := 6) rfl (by decide) ?_
  refine q_icmp_ne hJ (tgt := 26) dX9_readValue_6 (q := 9) rfl (by decide) (fun c1 => ?_) (fun c1 => ?_)
  · refine q_aload_n hJ dX9_readValue_26 (q := 27) rfl rfl rfl ?_
    refine q_iconst hJ (v := 3) dX9_readValue_27 (q := 28) rfl (by decide) ?_
    refine q_callV hJ dX9_readValue_28 (q := 31) rfl (S_readNumber tx n P 3 _ R hFR hT (by decide)) imX9_readNumber ln_X9_49 (by assumption) (by decide) rfl rfl rfl rfl (Nat.le_of_ble_eq_true rfl) (by decide) (by decide) rfl rfl (fun rv gv Iv Rv hv => ?_)
    obtain ⟨rfl, rfl, rfl, hT2, hO2, hK2⟩ := hv
    refine q_iret hM dX9_readValue_31 rfl rfl ?_
    have ed : valF2 tx n P = numF2 tx n 3 P := if_neg c1
    rw [ed]
    exact ⟨rfl, rfl, rfl, hT2, hO2, hK2⟩
  · obtain ⟨e1, e2, e3⟩ := here_lt (show ¬ hereF tx n P = -1 from by rw [c1]; decide)
    refine q_aload_n hJ dX9_readValue_9 (q := 10) rfl rfl rfl ?_
    refine q_dup hJ dX9_readValue_10 (q := 11) rfl rfl ?_
    refine q_getI hJ dX9_readValue_11 (q := 14) rfl fl_X9_19 rfl (by assumption) h5 ?_
    refine q_iconst hJ (v := 1) dX9_readValue_14 (q := 15) rfl (by decide) ?_
    refine q_iadd hJ dX9_readValue_15 (q := 16) rfl ?_
    rw [nI_1]
    refine q_putI hJ dX9_readValue_16 (q := 19) rfl fl_X9_19 rfl rfl (by assumption) rfl rfl ?_
    refine q_aload_n hJ dX9_readValue_19 (q := 20) rfl rfl rfl ?_
    refine q_iconst hJ (v := 3) dX9_readValue_20 (q := 21) rfl (by decide) ?_
    refine q_callV hJ dX9_readValue_21 (q := 24) rfl (S_readNumber tx n (P.1 + 1, P.2) 3 _ R hFR (hT.pos e2) (by decide)) imX9_readNumber ln_X9_49 (by assumption) (by decide) rfl rfl rfl rfl (Nat.le_of_ble_eq_true rfl) (by decide) (by decide) rfl rfl (fun rv gv Iv Rv hv => ?_)
    obtain ⟨rfl, rfl, rfl, hT2, hO2, hK2⟩ := hv
    refine q_ineg hJ dX9_readValue_24 (q := 25) rfl ?_
    refine q_iret hM dX9_readValue_25 rfl rfl ?_
    have ed : valF2 tx n P = (-(numF2 tx n 3 (P.1 + 1, P.2)).1, (numF2 tx n 3 (P.1 + 1, P.2)).2) := if_pos c1
    rw [ed]
    exact ⟨rfl, rfl, rfl, hT2, fun a ha => (hO2 a ha).trans (t_o a ha), fun k q1 q2 => (hK2 k q1 q2).trans (t_k (Or.inl rfl) k q1 q2)⟩

def TxP1 (tx : Nat → Int32) (n : Nat) (Z : PS) (I : MI) (R : MR) : Po := fun r g' I' R' => ∃ P' : PS, Z = P' ∧ r = none ∧ g0 = g' ∧ R = R' ∧ TX I' tx n P' ∧ (∀ a, a ≠ 315 → I' a = I a) ∧ ∀ k, k ≠ 2 → k ≠ 3 → I' 315 k = I 315 k
def TxP2 (tx : Nat → Int32) (n : Nat) (Z : Int32 × PS) (I : MI) (R : MR) : Po := fun r g' I' R' => ∃ (v : Int32) (P' : PS), Z = (v, P') ∧ r = some (.int v) ∧ g0 = g' ∧ R = R' ∧ TX I' tx n P' ∧ (∀ a, a ≠ 315 → I' a = I a) ∧ ∀ k, k ≠ 2 → k ≠ 3 → I' 315 k = I 315 k
theorem S_pass1 (tx : Nat → Int32) (n : Nat) (P : PS) (c : Int32) (I : MI) (R : MR) (hFR : FR R) (hT : TX I tx n P) (hc : ¬ c = -1) : Sp 1 0 0 mX9_pass [.ref 315, .int c] g0 I R (TxP1 tx n (passF tx n c P) I R) := (S_pass tx n P c I R hFR hT hc).weaken (fun _ _ _ _ h => ⟨_, rfl, h⟩)
theorem S_readDigit2 (tx : Nat → Int32) (n : Nat) (P : PS) (m : Int32) (I : MI) (R : MR) (hFR : FR R) (hT : TX I tx n P) : Sp 1 0 0 mX9_readDigit [.ref 315, .int m] g0 I R (TxP2 tx n (digF tx n m P) I R) := (S_readDigit tx n P m I R hFR hT).weaken (fun _ _ _ _ h => ⟨_, _, rfl, h⟩)
theorem S_readNumber2 (tx : Nat → Int32) (n : Nat) (P : PS) (m : Nat) (I : MI) (R : MR) (hFR : FR R) (hT : TX I tx n P) (hm : 1 ≤ m ∧ m ≤ 3) : Sp 2 0 0 mX9_readNumber [.ref 315, .int (nI m)] g0 I R (TxP2 tx n (numF2 tx n m P) I R) := (S_readNumber tx n P m I R hFR hT hm).weaken (fun _ _ _ _ h => ⟨_, _, rfl, h⟩)
theorem S_readValue2 (tx : Nat → Int32) (n : Nat) (P : PS) (I : MI) (R : MR) (hFR : FR R) (hT : TX I tx n P) : Sp 3 0 0 mX9_readValue [.ref 315] g0 I R (TxP2 tx n (valF2 tx n P) I R) := (S_readValue tx n P I R hFR hT).weaken (fun _ _ _ _ h => ⟨_, _, rfl, h⟩)
/-- a statement of the text: where it ends, and its six ints (event, key, field, three values: slots 4 to 9) -/
def insS (tx : Nat → Int32) (n : Nat) (P : PS) (F : Nat → Int32) : PS × (Nat → Int32) :=
  ((valF2 tx n (passF tx n 44 (valF2 tx n (passF tx n 44 (valF2 tx n (passF tx n 61 (numF2 tx n 2 (passF tx n 105 P)).2)).2)).2)).2, fun k =>
    if k = 4 then 0 else if k = 5 then (numF2 tx n 2 (passF tx n 105 P)).1 else if k = 7 then (valF2 tx n (passF tx n 61 (numF2 tx n 2 (passF tx n 105 P)).2)).1
    else if k = 8 then (valF2 tx n (passF tx n 44 (valF2 tx n (passF tx n 61 (numF2 tx n 2 (passF tx n 105 P)).2)).2)).1
    else if k = 9 then (valF2 tx n (passF tx n 44 (valF2 tx n (passF tx n 44 (valF2 tx n (passF tx n 61 (numF2 tx n 2 (passF tx n 105 P)).2)).2)).2)).1 else F k)
def updS (tx : Nat → Int32) (n : Nat) (P : PS) (F : Nat → Int32) : PS × (Nat → Int32) :=
  ((valF2 tx n (passF tx n 61 (digF tx n 2 (passF tx n 46 (numF2 tx n 2 (passF tx n 117 P)).2)).2)).2, fun k =>
    if k = 4 then 1 else if k = 5 then (numF2 tx n 2 (passF tx n 117 P)).1 else if k = 6 then (digF tx n 2 (passF tx n 46 (numF2 tx n 2 (passF tx n 117 P)).2)).1
    else if k = 7 then (valF2 tx n (passF tx n 61 (digF tx n 2 (passF tx n 46 (numF2 tx n 2 (passF tx n 117 P)).2)).2)).1 else F k)
def delS (tx : Nat → Int32) (n : Nat) (P : PS) (F : Nat → Int32) : PS × (Nat → Int32) :=
  ((numF2 tx n 2 (passF tx n 100 P)).2, fun k => if k = 4 then 2 else if k = 5 then (numF2 tx n 2 (passF tx n 100 P)).1 else F k)
def bodS (tx : Nat → Int32) (n : Nat) (P : PS) (F : Nat → Int32) : PS × (Nat → Int32) :=
  if hereF tx n P = 100 then delS tx n P F else if hereF tx n P = 105 then insS tx n P F else if hereF tx n P = 117 then updS tx n P F else ((P.1, true), F)
def stmS (tx : Nat → Int32) (n : Nat) (P : PS) (F : Nat → Int32) : PS × (Nat → Int32) := bodS tx n (if 0 < P.1 then passF tx n 59 P else P) F
def TF (I : MI) (F : Nat → Int32) : Prop := ∀ k, 4 ≤ k → k < 10 → I 315 k = F k
def SmPo (tx : Nat → Int32) (n : Nat) (X : PS × (Nat → Int32)) (I : MI) (R : MR) : Po := fun r g' I' R' => r = none ∧ g0 = g' ∧ R = R' ∧ TX I' tx n X.1 ∧ TF I' X.2 ∧ ∀ a, a ≠ 315 → I' a = I a
theorem TX.f {I : MI} {tx : Nat → Int32} {n : Nat} {P : PS} (h : TX I tx n P) {k : Nat} {v : Int32} (hk : 4 ≤ k) : TX (up2 I 315 k v) tx n P := by
  obtain ⟨h1, h2, h3, h4, h5, h6⟩ := h
  have e : ∀ j, j < 4 → up2 I 315 k v 315 j = I 315 j := fun j hj => by rw [up2_app, if_neg (fun z => by omega)]
  exact ⟨by rw [e 1 (by omega)]; exact h1, h2, h3, fun i hi => by rw [t_o 316 (by decide)]; exact h4 i hi, by rw [e 2 (by omega)]; exact h5, by rw [e 3 (by omega)]; exact h6⟩
set_option maxRecDepth 100000 in
set_option maxHeartbeats 1600000 in
theorem S_readInsert (tx : Nat → Int32) (n : Nat) (P : PS) (F : Nat → Int32) (I : MI) (R : MR) (hFR : FR R) (hT : TX I tx n P) (hF : TF I F) : Sp 4 0 0 mX9_readInsert [.ref 315] g0 I R (SmPo tx n (insS tx n P F) I R) := by
  have hk := ka315
  have hk6 := ka316
  have hr := hFR.2.2.2.1.2
  refine Sp.on (by decide +kernel) rfl rfl (fun J hM => ?_)
  have hJ := hM.ok
  refine q_aload_n hJ dX9_readInsert_0 (q := 1) rfl rfl rfl ?_
  refine q_iconst hJ (v := 0) dX9_readInsert_1 (q := 2) rfl (by decide) ?_
  refine q_putI hJ dX9_readInsert_2 (q := 5) rfl fl_X9_46 rfl rfl (by assumption) rfl rfl ?_
  refine q_aload_n hJ dX9_readInsert_5 (q := 6) rfl rfl rfl ?_
  refine q_bipush hJ (v := 105) dX9_readInsert_6 (q := 8) rfl (by decide) ?_
  refine q_callV hJ dX9_readInsert_8 (q := 11) rfl (S_pass1 tx n P 105 _ R hFR (hT.f (by omega)) (by decide)) imX9_pass ln_X9_32 (by assumption) (by decide) rfl rfl rfl rfl (Nat.le_of_ble_eq_true rfl) (by decide) (by decide) rfl rfl (fun rv gv Iv Rv hv => ?_)
  obtain ⟨P1, hP1, rfl, rfl, rfl, hT1, hO1, hK1⟩ := hv
  refine q_aload_n hJ dX9_readInsert_11 (q := 12) rfl rfl rfl ?_
  refine q_aload_n hJ dX9_readInsert_12 (q := 13) rfl rfl rfl ?_
  refine q_iconst hJ (v := 2) dX9_readInsert_13 (q := 14) rfl (by decide) ?_
  refine q_callV hJ dX9_readInsert_14 (q := 17) rfl (S_readNumber2 tx n P1 2 _ R hFR hT1 (by decide)) imX9_readNumber ln_X9_49 (by assumption) (by decide) rfl rfl rfl rfl (Nat.le_of_ble_eq_true rfl) (by decide) (by decide) rfl rfl (fun rv gv Iv Rv hv => ?_)
  obtain ⟨v2, P2, hP2, rfl, rfl, rfl, hT2, hO2, hK2⟩ := hv
  refine q_putI hJ dX9_readInsert_17 (q := 20) rfl fl_X9_53 rfl rfl (by assumption) rfl rfl ?_
  refine q_aload_n hJ dX9_readInsert_20 (q := 21) rfl rfl rfl ?_
  refine q_bipush hJ (v := 61) dX9_readInsert_21 (q := 23) rfl (by decide) ?_
  refine q_callV hJ dX9_readInsert_23 (q := 26) rfl (S_pass1 tx n P2 61 _ R hFR (hT2.f (by omega)) (by decide)) imX9_pass ln_X9_32 (by assumption) (by decide) rfl rfl rfl rfl (Nat.le_of_ble_eq_true rfl) (by decide) (by decide) rfl rfl (fun rv gv Iv Rv hv => ?_)
  obtain ⟨P3, hP3, rfl, rfl, rfl, hT3, hO3, hK3⟩ := hv
  refine q_aload_n hJ dX9_readInsert_26 (q := 27) rfl rfl rfl ?_
  refine q_aload_n hJ dX9_readInsert_27 (q := 28) rfl rfl rfl ?_
  refine q_callV hJ dX9_readInsert_28 (q := 31) rfl (S_readValue2 tx n P3 _ R hFR hT3) imX9_readValue ln_X9_56 (by assumption) (by decide) rfl rfl rfl rfl (Nat.le_of_ble_eq_true rfl) (by decide) (by decide) rfl rfl (fun rv gv Iv Rv hv => ?_)
  obtain ⟨v4, P4, hP4, rfl, rfl, rfl, hT4, hO4, hK4⟩ := hv
  refine q_putI hJ dX9_readInsert_31 (q := 34) rfl fl_X9_59 rfl rfl (by assumption) rfl rfl ?_
  refine q_aload_n hJ dX9_readInsert_34 (q := 35) rfl rfl rfl ?_
  refine q_bipush hJ (v := 44) dX9_readInsert_35 (q := 37) rfl (by decide) ?_
  refine q_callV hJ dX9_readInsert_37 (q := 40) rfl (S_pass1 tx n P4 44 _ R hFR (hT4.f (by omega)) (by decide)) imX9_pass ln_X9_32 (by assumption) (by decide) rfl rfl rfl rfl (Nat.le_of_ble_eq_true rfl) (by decide) (by decide) rfl rfl (fun rv gv Iv Rv hv => ?_)
  obtain ⟨P5, hP5, rfl, rfl, rfl, hT5, hO5, hK5⟩ := hv
  refine q_aload_n hJ dX9_readInsert_40 (q := 41) rfl rfl rfl ?_
  refine q_aload_n hJ dX9_readInsert_41 (q := 42) rfl rfl rfl ?_
  refine q_callV hJ dX9_readInsert_42 (q := 45) rfl (S_readValue2 tx n P5 _ R hFR hT5) imX9_readValue ln_X9_56 (by assumption) (by decide) rfl rfl rfl rfl (Nat.le_of_ble_eq_true rfl) (by decide) (by decide) rfl rfl (fun rv gv Iv Rv hv => ?_)
  obtain ⟨v6, P6, hP6, rfl, rfl, rfl, hT6, hO6, hK6⟩ := hv
  refine q_putI hJ dX9_readInsert_45 (q := 48) rfl fl_X9_62 rfl rfl (by assumption) rfl rfl ?_
  refine q_aload_n hJ dX9_readInsert_48 (q := 49) rfl rfl rfl ?_
  refine q_bipush hJ (v := 44) dX9_readInsert_49 (q := 51) rfl (by decide) ?_
  refine q_callV hJ dX9_readInsert_51 (q := 54) rfl (S_pass1 tx n P6 44 _ R hFR (hT6.f (by omega)) (by decide)) imX9_pass ln_X9_32 (by assumption) (by decide) rfl rfl rfl rfl (Nat.le_of_ble_eq_true rfl) (by decide) (by decide) rfl rfl (fun rv gv Iv Rv hv => ?_)
  obtain ⟨P7, hP7, rfl, rfl, rfl, hT7, hO7, hK7⟩ := hv
  refine q_aload_n hJ dX9_readInsert_54 (q := 55) rfl rfl rfl ?_
  refine q_aload_n hJ dX9_readInsert_55 (q := 56) rfl rfl rfl ?_
  refine q_callV hJ dX9_readInsert_56 (q := 59) rfl (S_readValue2 tx n P7 _ R hFR hT7) imX9_readValue ln_X9_56 (by assumption) (by decide) rfl rfl rfl rfl (Nat.le_of_ble_eq_true rfl) (by decide) (by decide) rfl rfl (fun rv gv Iv Rv hv => ?_)
  obtain ⟨v8, P8, hP8, rfl, rfl, rfl, hT8, hO8, hK8⟩ := hv
  refine q_putI hJ dX9_readInsert_59 (q := 62) rfl fl_X9_65 rfl rfl (by assumption) rfl rfl ?_
  refine q_vret hM dX9_readInsert_62 rfl ?_
  have ex : insS tx n P F = (P8, fun k => if k = 4 then 0 else if k = 5 then v2 else if k = 7 then v4 else if k = 8 then v6 else if k = 9 then v8 else F k) := by
    simp only [insS, hP1, hP2, hP3, hP4, hP5, hP6, hP7, hP8]
  rw [ex]
  refine ⟨rfl, rfl, rfl, hT8.f (by omega), fun k q1 q2 => ?_, fun a ha => by rw [t_o a ha, hO8 a ha, hO7 a ha, t_o a ha, hO6 a ha, hO5 a ha, t_o a ha, hO4 a ha, hO3 a ha, t_o a ha, hO2 a ha, hO1 a ha, t_o a ha]⟩
  rcases (show k = 4 ∨ k = 5 ∨ k = 6 ∨ k = 7 ∨ k = 8 ∨ k = 9 by omega) with rfl | rfl | rfl | rfl | rfl | rfl
  · show _ = 0
    rw [up2_app, if_neg (by decide), hK8 4 (by decide) (by decide), hK7 4 (by decide) (by decide), up2_app, if_neg (by decide), hK6 4 (by decide) (by decide), hK5 4 (by decide) (by decide), up2_app, if_neg (by decide), hK4 4 (by decide) (by decide), hK3 4 (by decide) (by decide), up2_app, if_neg (by decide), hK2 4 (by decide) (by decide), hK1 4 (by decide) (by decide), up2_app, if_pos ⟨rfl, rfl⟩]
  · show _ = v2
    rw [up2_app, if_neg (by decide), hK8 5 (by decide) (by decide), hK7 5 (by decide) (by decide), up2_app, if_neg (by decide), hK6 5 (by decide) (by decide), hK5 5 (by decide) (by decide), up2_app, if_neg (by decide), hK4 5 (by decide) (by decide), hK3 5 (by decide) (by decide), up2_app, if_pos ⟨rfl, rfl⟩]
  · show _ = F 6
    rw [up2_app, if_neg (by decide), hK8 6 (by decide) (by decide), hK7 6 (by decide) (by decide), up2_app, if_neg (by decide), hK6 6 (by decide) (by decide), hK5 6 (by decide) (by decide), up2_app, if_neg (by decide), hK4 6 (by decide) (by decide), hK3 6 (by decide) (by decide), up2_app, if_neg (by decide), hK2 6 (by decide) (by decide), hK1 6 (by decide) (by decide), up2_app, if_neg (by decide)]
    exact hF 6 (by decide) (by decide)
  · show _ = v4
    rw [up2_app, if_neg (by decide), hK8 7 (by decide) (by decide), hK7 7 (by decide) (by decide), up2_app, if_neg (by decide), hK6 7 (by decide) (by decide), hK5 7 (by decide) (by decide), up2_app, if_pos ⟨rfl, rfl⟩]
  · show _ = v6
    rw [up2_app, if_neg (by decide), hK8 8 (by decide) (by decide), hK7 8 (by decide) (by decide), up2_app, if_pos ⟨rfl, rfl⟩]
  · show _ = v8
    rw [up2_app, if_pos ⟨rfl, rfl⟩]

set_option maxRecDepth 100000 in
set_option maxHeartbeats 1600000 in
theorem S_readUpdate (tx : Nat → Int32) (n : Nat) (P : PS) (F : Nat → Int32) (I : MI) (R : MR) (hFR : FR R) (hT : TX I tx n P) (hF : TF I F) : Sp 4 0 0 mX9_readUpdate [.ref 315] g0 I R (SmPo tx n (updS tx n P F) I R) := by
  have hk := ka315
  have hk6 := ka316
  have hr := hFR.2.2.2.1.2
  refine Sp.on (by decide +kernel) rfl rfl (fun J hM => ?_)
  have hJ := hM.ok
  refine q_aload_n hJ dX9_readUpdate_0 (q := 1) rfl rfl rfl ?_
  refine q_iconst hJ (v := 1) dX9_readUpdate_1 (q := 2) rfl (by decide) ?_
  refine q_putI hJ dX9_readUpdate_2 (q := 5) rfl fl_X9_46 rfl rfl (by assumption) rfl rfl ?_
  refine q_aload_n hJ dX9_readUpdate_5 (q := 6) rfl rfl rfl ?_
  refine q_bipush hJ (v := 117) dX9_readUpdate_6 (q := 8) rfl (by decide) ?_
  refine q_callV hJ dX9_readUpdate_8 (q := 11) rfl (S_pass1 tx n P 117 _ R hFR (hT.f (by omega)) (by decide)) imX9_pass ln_X9_32 (by assumption) (by decide) rfl rfl rfl rfl (Nat.le_of_ble_eq_true rfl) (by decide) (by decide) rfl rfl (fun rv gv Iv Rv hv => ?_)
  obtain ⟨P1, hP1, rfl, rfl, rfl, hT1, hO1, hK1⟩ := hv
  refine q_aload_n hJ dX9_readUpdate_11 (q := 12) rfl rfl rfl ?_
  refine q_aload_n hJ dX9_readUpdate_12 (q := 13) rfl rfl rfl ?_
  refine q_iconst hJ (v := 2) dX9_readUpdate_13 (q := 14) rfl (by decide) ?_
  refine q_callV hJ dX9_readUpdate_14 (q := 17) rfl (S_readNumber2 tx n P1 2 _ R hFR hT1 (by decide)) imX9_readNumber ln_X9_49 (by assumption) (by decide) rfl rfl rfl rfl (Nat.le_of_ble_eq_true rfl) (by decide) (by decide) rfl rfl (fun rv gv Iv Rv hv => ?_)
  obtain ⟨v2, P2, hP2, rfl, rfl, rfl, hT2, hO2, hK2⟩ := hv
  refine q_putI hJ dX9_readUpdate_17 (q := 20) rfl fl_X9_53 rfl rfl (by assumption) rfl rfl ?_
  refine q_aload_n hJ dX9_readUpdate_20 (q := 21) rfl rfl rfl ?_
  refine q_bipush hJ (v := 46) dX9_readUpdate_21 (q := 23) rfl (by decide) ?_
  refine q_callV hJ dX9_readUpdate_23 (q := 26) rfl (S_pass1 tx n P2 46 _ R hFR (hT2.f (by omega)) (by decide)) imX9_pass ln_X9_32 (by assumption) (by decide) rfl rfl rfl rfl (Nat.le_of_ble_eq_true rfl) (by decide) (by decide) rfl rfl (fun rv gv Iv Rv hv => ?_)
  obtain ⟨P3, hP3, rfl, rfl, rfl, hT3, hO3, hK3⟩ := hv
  refine q_aload_n hJ dX9_readUpdate_26 (q := 27) rfl rfl rfl ?_
  refine q_aload_n hJ dX9_readUpdate_27 (q := 28) rfl rfl rfl ?_
  refine q_iconst hJ (v := 2) dX9_readUpdate_28 (q := 29) rfl (by decide) ?_
  refine q_callV hJ dX9_readUpdate_29 (q := 32) rfl (S_readDigit2 tx n P3 2 _ R hFR hT3) imX9_readDigit ln_X9_68 (by assumption) (by decide) rfl rfl rfl rfl (Nat.le_of_ble_eq_true rfl) (by decide) (by decide) rfl rfl (fun rv gv Iv Rv hv => ?_)
  obtain ⟨v4, P4, hP4, rfl, rfl, rfl, hT4, hO4, hK4⟩ := hv
  refine q_putI hJ dX9_readUpdate_32 (q := 35) rfl fl_X9_71 rfl rfl (by assumption) rfl rfl ?_
  refine q_aload_n hJ dX9_readUpdate_35 (q := 36) rfl rfl rfl ?_
  refine q_bipush hJ (v := 61) dX9_readUpdate_36 (q := 38) rfl (by decide) ?_
  refine q_callV hJ dX9_readUpdate_38 (q := 41) rfl (S_pass1 tx n P4 61 _ R hFR (hT4.f (by omega)) (by decide)) imX9_pass ln_X9_32 (by assumption) (by decide) rfl rfl rfl rfl (Nat.le_of_ble_eq_true rfl) (by decide) (by decide) rfl rfl (fun rv gv Iv Rv hv => ?_)
  obtain ⟨P5, hP5, rfl, rfl, rfl, hT5, hO5, hK5⟩ := hv
  refine q_aload_n hJ dX9_readUpdate_41 (q := 42) rfl rfl rfl ?_
  refine q_aload_n hJ dX9_readUpdate_42 (q := 43) rfl rfl rfl ?_
  refine q_callV hJ dX9_readUpdate_43 (q := 46) rfl (S_readValue2 tx n P5 _ R hFR hT5) imX9_readValue ln_X9_56 (by assumption) (by decide) rfl rfl rfl rfl (Nat.le_of_ble_eq_true rfl) (by decide) (by decide) rfl rfl (fun rv gv Iv Rv hv => ?_)
  obtain ⟨v6, P6, hP6, rfl, rfl, rfl, hT6, hO6, hK6⟩ := hv
  refine q_putI hJ dX9_readUpdate_46 (q := 49) rfl fl_X9_59 rfl rfl (by assumption) rfl rfl ?_
  refine q_vret hM dX9_readUpdate_49 rfl ?_
  have ex : updS tx n P F = (P6, fun k => if k = 4 then 1 else if k = 5 then v2 else if k = 6 then v4 else if k = 7 then v6 else F k) := by
    simp only [updS, hP1, hP2, hP3, hP4, hP5, hP6]
  rw [ex]
  refine ⟨rfl, rfl, rfl, hT6.f (by omega), fun k q1 q2 => ?_, fun a ha => by rw [t_o a ha, hO6 a ha, hO5 a ha, t_o a ha, hO4 a ha, hO3 a ha, t_o a ha, hO2 a ha, hO1 a ha, t_o a ha]⟩
  rcases (show k = 4 ∨ k = 5 ∨ k = 6 ∨ k = 7 ∨ k = 8 ∨ k = 9 by omega) with rfl | rfl | rfl | rfl | rfl | rfl
  · show _ = 1
    rw [up2_app, if_neg (by decide), hK6 4 (by decide) (by decide), hK5 4 (by decide) (by decide), up2_app, if_neg (by decide), hK4 4 (by decide) (by decide), hK3 4 (by decide) (by decide), up2_app, if_neg (by decide), hK2 4 (by decide) (by decide), hK1 4 (by decide) (by decide), up2_app, if_pos ⟨rfl, rfl⟩]
  · show _ = v2
    rw [up2_app, if_neg (by decide), hK6 5 (by decide) (by decide), hK5 5 (by decide) (by decide), up2_app, if_neg (by decide), hK4 5 (by decide) (by decide), hK3 5 (by decide) (by decide), up2_app, if_pos ⟨rfl, rfl⟩]
  · show _ = v4
    rw [up2_app, if_neg (by decide), hK6 6 (by decide) (by decide), hK5 6 (by decide) (by decide), up2_app, if_pos ⟨rfl, rfl⟩]
  · show _ = v6
    rw [up2_app, if_pos ⟨rfl, rfl⟩]
  · show _ = F 8
    rw [up2_app, if_neg (by decide), hK6 8 (by decide) (by decide), hK5 8 (by decide) (by decide), up2_app, if_neg (by decide), hK4 8 (by decide) (by decide), hK3 8 (by decide) (by decide), up2_app, if_neg (by decide), hK2 8 (by decide) (by decide), hK1 8 (by decide) (by decide), up2_app, if_neg (by decide)]
    exact hF 8 (by decide) (by decide)
  · show _ = F 9
    rw [up2_app, if_neg (by decide), hK6 9 (by decide) (by decide), hK5 9 (by decide) (by decide), up2_app, if_neg (by decide), hK4 9 (by decide) (by decide), hK3 9 (by decide) (by decide), up2_app, if_neg (by decide), hK2 9 (by decide) (by decide), hK1 9 (by decide) (by decide), up2_app, if_neg (by decide)]
    exact hF 9 (by decide) (by decide)

