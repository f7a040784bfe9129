/-! THE MODEL: statements of the text, the first fault -/
theorem dg_2 {c : Int32} (h : ¬ dgF c 9 = 0) : ∃ d, d < 10 ∧ c = nI (d + 48) := by
  obtain ⟨d, hd, e⟩ := dg_val h
  refine ⟨d, hd, ?_⟩
  rw [← nI_add, ← e]
  exact (Int32.sub_add_cancel c 48).symm
theorem dig_in2 (tx : Nat → Int32) (n p : Nat) : inR (dig tx n p) 0 2 = dgF (sgn tx n p) 2 := by
  by_cases h : dgF (sgn tx n p) 9 = 0
  · rw [show dig tx n p = -1 from if_pos h]
    unfold dgF at h ⊢
    by_cases h1 : sgn tx n p < 48
    · rw [if_pos h1]; rfl
    · rw [if_neg h1] at h ⊢
      by_cases h2 : 48 + 9 < sgn tx n p
      · rw [if_pos (Int32.lt_trans (show (48 : Int32) + 2 < 48 + 9 by decide) h2)]; rfl
      · rw [if_neg h2] at h; exact absurd h (by decide)
  · obtain ⟨d, hd, e⟩ := dg_2 h
    rw [show dig tx n p = sgn tx n p - 48 from if_neg h, e]
    have key : ∀ d : Fin 10, inR (nI (d.1 + 48) - 48) 0 2 = dgF (nI (d.1 + 48)) 2 := by decide +kernel
    exact key ⟨d, hd⟩
theorem pass_here {tx : Nat → Int32} {n p : Nat} {c : Int32} (h : sgn tx n p = c) : passF tx n c (p, false) = (p + 1, false) := if_pos h
theorem sgn_lt {tx : Nat → Int32} {n p : Nat} (h : ¬ sgn tx n p = -1) : p < n := by
  rcases Nat.lt_or_ge p n with z | z
  · exact z
  · exact absurd (sgn_out z) h
theorem bod_i {tx : Nat → Int32} {n p : Nat} (F : Nat → Int32) (h : sgn tx n p = 105) : (bodS tx n (p, false) F).1 = (valF2 tx n (passF tx n 44 (valF2 tx n (passF tx n 44 (valF2 tx n (passF tx n 61 (numF2 tx n 2 (p + 1, false)).2)).2)).2)).2 := by
  unfold bodS
  rw [if_neg (show ¬ hereF tx n (p, false) = 100 by rw [show hereF tx n (p, false) = 105 from h]; decide), if_pos (show hereF tx n (p, false) = 105 from h)]
  unfold insS
  rw [pass_here h]
theorem bod_u {tx : Nat → Int32} {n p : Nat} (F : Nat → Int32) (h : sgn tx n p = 117) : (bodS tx n (p, false) F).1 = (valF2 tx n (passF tx n 61 (digF tx n 2 (passF tx n 46 (numF2 tx n 2 (p + 1, false)).2)).2)).2 := by
  unfold bodS
  rw [if_neg (show ¬ hereF tx n (p, false) = 100 by rw [show hereF tx n (p, false) = 117 from h]; decide), if_neg (show ¬ hereF tx n (p, false) = 105 by rw [show hereF tx n (p, false) = 117 from h]; decide), if_pos (show hereF tx n (p, false) = 117 from h)]
  unfold updS
  rw [pass_here h]
theorem bod_d {tx : Nat → Int32} {n p : Nat} (F : Nat → Int32) (h : sgn tx n p = 100) : (bodS tx n (p, false) F).1 = (numF2 tx n 2 (p + 1, false)).2 := by
  unfold bodS
  rw [if_pos (show hereF tx n (p, false) = 100 from h)]
  unfold delS
  rw [pass_here h]
theorem bod_x {tx : Nat → Int32} {n p : Nat} (F : Nat → Int32) (h0 : ¬ sgn tx n p = 100) (h1 : ¬ sgn tx n p = 105) (h2 : ¬ sgn tx n p = 117) : (bodS tx n (p, false) F).1 = (p, true) := by
  unfold bodS
  rw [if_neg h0, if_neg h1, if_neg h2]
theorem digF_no {tx : Nat → Int32} {n q : Nat} (h : dgF (sgn tx n q) 2 = 0) : digF tx n 2 (q, false) = (0, (q, true)) := if_pos h
theorem digF_yes {tx : Nat → Int32} {n q : Nat} (h : ¬ dgF (sgn tx n q) 2 = 0) : digF tx n 2 (q, false) = (sgn tx n q - 48, (q + 1, false)) := if_neg h
set_option maxRecDepth 100000 in
set_option maxHeartbeats 400000 in
theorem M_updateEnd (tx : Nat → Int32) (n : Nat) (p : Nat) (hpn : p ≤ n + 1) (I : MI) (R : MR) (hFR : FR R) (hT : TXM I tx n) : Sp 5 0 0 mX11_updateEnd [.ref 317, .int (nI p)] g0 I R (Mv (enc (valF2 tx n (passF tx n 61 (digF tx n 2 (passF tx n 46 (numF2 tx n 2 (p, false)).2)).2)).2) I R) := by
  have hm0 := hFR.2.2.2.2.2.1
  have hm1 := hFR.2.2.2.2.2.2.1
  have hm3 := hFR.2.2.2.2.2.2.2.1
  have hm5 := hFR.2.2.2.2.2.2.2.2.1
  have hm7 := hFR.2.2.2.2.2.2.2.2.2
  have t1 := hT.1
  have t2 := hT.2.1
  have t3 := hT.2.2
  refine Sp.on (by decide +kernel) rfl rfl (fun J hM => ?_)
  have hJ := hM.ok
  refine q_aload_n hJ dX11_updateEnd_0 (q := 1) rfl rfl (by first | rfl | exact isR_rr _) ?_
  refine q_aload_n hJ dX11_updateEnd_1 (q := 2) rfl rfl (by first | rfl | exact isR_rr _) ?_
  refine q_iload_n hJ dX11_updateEnd_2 (q := 3) rfl rfl ?_
  refine q_iconst hJ (v := 2) dX11_updateEnd_3 (q := 4) rfl (by decide) ?_
  refine q_callV hJ dX11_updateEnd_4 (q := 7) rfl (M_numberEnd p 2 (by omega) (by decide) tx n I R hFR hT) imX11_numberEnd ln_X11_171 (by first | exact ka317 | exact ka318 | exact ka319 | exact ka320 | exact ka321 | exact ka322) (by decide) rfl rfl rfl rfl (Nat.le_of_ble_eq_true rfl) (by decide) (by decide) rfl rfl (fun rv gv Iv Rv hv => ?_)
  obtain ⟨rfl, rfl, rfl, rfl⟩ := hv
  obtain ⟨Q1, hQ1⟩ : ∃ Q : PS, Q = (numF2 tx n 2 (p, false)).2 := ⟨_, rfl⟩
  have l1 : Q1.1 ≤ n + 1 := by rw [hQ1]; exact (mono_all (P := (p, false)) hpn).1
  rw [← hQ1]
  have rest : ∀ Q3 : PS, Q3.1 ≤ n + 2 → (digF tx n 2 (passF tx n 46 Q1)).2 = Q3 → J 0 0 40 [some (.ref 317), some (.int (nI p)), some (.int (enc Q3))] [] g0 I R := by
    intro Q3 l3 h3
    refine q_aload_n hJ dX11_updateEnd_40 (q := 41) rfl rfl (by first | rfl | exact isR_rr _) ?_
    refine q_iload_n hJ dX11_updateEnd_41 (q := 42) rfl rfl ?_
    refine q_bipush hJ (v := 61) dX11_updateEnd_42 (q := 44) rfl (by decide) ?_
    refine q_callV hJ dX11_updateEnd_44 (q := 47) rfl (M_valueBehind Q3.1 Q3.2 (by have := l3; omega) 61 (by decide) tx n I R hFR hT) imX11_valueBehind ln_X11_180 (by first | exact ka317 | exact ka318 | exact ka319 | exact ka320 | exact ka321 | exact ka322) (by decide) rfl rfl rfl rfl (Nat.le_of_ble_eq_true rfl) (by decide) (by decide) rfl rfl (fun rv gv Iv Rv hv => ?_)
    obtain ⟨rfl, rfl, rfl, rfl⟩ := hv
    refine q_iret hM dX11_updateEnd_47 rfl rfl ?_
    exact ⟨iv (by rw [← hQ1, h3]), rfl, rfl, rfl⟩
  refine q_bipush hJ (v := 46) dX11_updateEnd_7 (q := 9) rfl (by decide) ?_
  refine q_callV hJ dX11_updateEnd_9 (q := 12) rfl (M_behind Q1.1 Q1.2 (by omega) 46 (by decide) tx n I R hFR hT) imX11_behind ln_X11_174 (by first | exact ka317 | exact ka318 | exact ka319 | exact ka320 | exact ka321 | exact ka322) (by decide) rfl rfl rfl rfl (Nat.le_of_ble_eq_true rfl) (by decide) (by decide) rfl rfl (fun rv gv Iv Rv hv => ?_)
  obtain ⟨rfl, rfl, rfl, rfl⟩ := hv
  obtain ⟨⟨q, b⟩, hQ2⟩ : ∃ Q : PS, Q = passF tx n 46 Q1 := ⟨_, rfl⟩
  have l2 : q ≤ n + 1 := by have := (mono_all (tx := tx) l1).2.2 46 (by decide); rw [← hQ2] at this; exact this
  rw [show passF tx n 46 (Q1.1, Q1.2) = (q, b) from hQ2.symm]
  refine q_istore_n hJ dX11_updateEnd_12 (q := 13) rfl (by decide) ?_
  refine q_iload_n hJ dX11_updateEnd_13 (q := 14) rfl rfl ?_
  refine q_if_lt hJ (tgt := 40) dX11_updateEnd_14 (q := 17) rfl (by decide) (fun c1 => ?_) (fun c1 => ?_)
  · first
      | (have e1 : ¬ b = false := fun z => absurd ((enc_le (P := (q, b)) (by show q ≤ 200; omega)).mpr z) (Int32.not_le.mpr c1)
         have e2 : b = true := by cases b <;> simp_all
         subst e2
         exact rest (q, true) (by show q ≤ n + 2; omega) (by rw [← hQ2, digF_stay]))
      | (have hd := digF_no (tx := tx) (n := n) (q := q) c2
         exact rest (q, true) (by show q ≤ n + 2; omega) (by rw [← hQ2, hd]))
      | (have hd := digF_yes (tx := tx) (n := n) (q := q) c2
         have hr := rest (q + 1, false) (by show q + 1 ≤ n + 2; omega) (by rw [← hQ2, hd])
         rw [show enc (q + 1, false) = nI q + 1 from (nI_1 q).symm] at hr
         exact hr)
      | fail
  · have e1 := (enc_le (P := (q, b)) (by show q ≤ 200; omega)).mp (Int32.not_lt.mp c1)
    have e2 : b = false := e1
    subst e2
    refine q_aload_n hJ dX11_updateEnd_17 (q := 18) rfl rfl (by first | rfl | exact isR_rr _) ?_
    refine q_iload_n hJ dX11_updateEnd_18 (q := 19) rfl rfl ?_
    refine q_callV hJ dX11_updateEnd_19 (q := 22) rfl (M_digit q (by omega) tx n I R hFR hT) imX11_digit ln_X11_168 (by first | exact ka317 | exact ka318 | exact ka319 | exact ka320 | exact ka321 | exact ka322) (by decide) rfl rfl rfl rfl (Nat.le_of_ble_eq_true rfl) (by decide) (by decide) rfl rfl (fun rv gv Iv Rv hv => ?_)
    obtain ⟨rfl, rfl, rfl, rfl⟩ := hv
    refine q_iconst hJ (v := 0) dX11_updateEnd_22 (q := 23) rfl (by decide) ?_
    refine q_iconst hJ (v := 2) dX11_updateEnd_23 (q := 24) rfl (by decide) ?_
    refine q_callS hJ dX11_updateEnd_24 (q := 27) rfl (M_in (dig tx n q) 0 2 I R) imX11_in ln_X11_25 rfl rfl rfl (Nat.le_of_ble_eq_true rfl) (by decide) (by decide) rfl rfl (fun rv gv Iv Rv hv => ?_)
    obtain ⟨rfl, rfl, rfl, rfl⟩ := hv
    rw [dig_in2]
    refine q_if_eq hJ (tgt := 36) dX11_updateEnd_27 (q := 30) rfl (by decide) (fun c2 => ?_) (fun c2 => ?_)
    · refine q_iconst hJ (v := (-1)) dX11_updateEnd_36 (q := 37) rfl (by decide) ?_
      refine q_iload_n hJ dX11_updateEnd_37 (q := 38) rfl rfl ?_
      refine q_isub hJ dX11_updateEnd_38 (q := 39) rfl ?_
      refine q_istore_n hJ dX11_updateEnd_39 (q := 40) rfl (by decide) ?_
      first
        | (have e1 : ¬ b = false := fun z => absurd ((enc_le (P := (q, b)) (by show q ≤ 200; omega)).mpr z) (Int32.not_le.mpr c1)
           have e2 : b = true := by cases b <;> simp_all
           subst e2
           exact rest (q, true) (by show q ≤ n + 2; omega) (by rw [← hQ2, digF_stay]))
        | (have hd := digF_no (tx := tx) (n := n) (q := q) c2
           exact rest (q, true) (by show q ≤ n + 2; omega) (by rw [← hQ2, hd]))
        | (have hd := digF_yes (tx := tx) (n := n) (q := q) c2
           have hr := rest (q + 1, false) (by show q + 1 ≤ n + 2; omega) (by rw [← hQ2, hd])
           rw [show enc (q + 1, false) = nI q + 1 from (nI_1 q).symm] at hr
           exact hr)
        | fail
    · refine q_iload_n hJ dX11_updateEnd_30 (q := 31) rfl rfl ?_
      refine q_iconst hJ (v := 1) dX11_updateEnd_31 (q := 32) rfl (by decide) ?_
      refine q_iadd hJ dX11_updateEnd_32 (q := 33) rfl ?_
      refine q_goto hJ (tgt := 39) dX11_updateEnd_33 (by decide) ?_
      refine q_istore_n hJ dX11_updateEnd_39 (q := 40) rfl (by decide) ?_
      first
        | (have e1 : ¬ b = false := fun z => absurd ((enc_le (P := (q, b)) (by show q ≤ 200; omega)).mpr z) (Int32.not_le.mpr c1)
           have e2 : b = true := by cases b <;> simp_all
           subst e2
           exact rest (q, true) (by show q ≤ n + 2; omega) (by rw [← hQ2, digF_stay]))
        | (have hd := digF_no (tx := tx) (n := n) (q := q) c2
           exact rest (q, true) (by show q ≤ n + 2; omega) (by rw [← hQ2, hd]))
        | (have hd := digF_yes (tx := tx) (n := n) (q := q) c2
           have hr := rest (q + 1, false) (by show q + 1 ≤ n + 2; omega) (by rw [← hQ2, hd])
           rw [show enc (q + 1, false) = nI q + 1 from (nI_1 q).symm] at hr
           exact hr)
        | fail

set_option maxRecDepth 100000 in
set_option maxHeartbeats 400000 in
theorem M_statementEnd (tx : Nat → Int32) (n : Nat) (p : Nat) (hpn : p ≤ n + 1) (F : Nat → Int32) (I : MI) (R : MR) (hFR : FR R) (hT : TXM I tx n) : Sp 6 0 0 mX11_statementEnd [.ref 317, .int (nI p)] g0 I R (Mv (enc (bodS tx n (p, false) F).1) I R) := by
  have hm0 := hFR.2.2.2.2.2.1
  have hm1 := hFR.2.2.2.2.2.2.1
  have hm3 := hFR.2.2.2.2.2.2.2.1
  have hm5 := hFR.2.2.2.2.2.2.2.2.1
  have hm7 := hFR.2.2.2.2.2.2.2.2.2
  have t1 := hT.1
  have t2 := hT.2.1
  have t3 := hT.2.2
  refine Sp.on (by decide +kernel) rfl rfl (fun J hM => ?_)
  have hJ := hM.ok
  refine q_aload_n hJ dX11_statementEnd_0 (q := 1) rfl rfl (by first | rfl | exact isR_rr _) ?_
  refine q_iload_n hJ dX11_statementEnd_1 (q := 2) rfl rfl ?_
  refine q_callV hJ dX11_statementEnd_2 (q := 5) rfl (M_sign p (by omega) tx n I R hFR hT) imX11_sign ln_X11_164 (by first | exact ka317 | exact ka318 | exact ka319 | exact ka320 | exact ka321 | exact ka322) (by decide) rfl rfl rfl rfl (Nat.le_of_ble_eq_true rfl) (by decide) (by decide) rfl rfl (fun rv gv Iv Rv hv => ?_)
  obtain ⟨rfl, rfl, rfl, rfl⟩ := hv
  by_cases k_0 : sgn tx n p = 100
  · refine q_lsw hJ (off := 51) (tgt := 56) dX11_statementEnd_5 (by decide) (by rw [k_0]; decide) (by decide) ?_
    refine q_aload_n hJ dX11_statementEnd_56 (q := 57) rfl rfl (by first | rfl | exact isR_rr _) ?_
    refine q_iload_n hJ dX11_statementEnd_57 (q := 58) rfl rfl ?_
    refine q_iconst hJ (v := 1) dX11_statementEnd_58 (q := 59) rfl (by decide) ?_
    refine q_iadd hJ dX11_statementEnd_59 (q := 60) rfl ?_
    rw [nI_1 p]
    refine q_iconst hJ (v := 2) dX11_statementEnd_60 (q := 61) rfl (by decide) ?_
    refine q_callV hJ dX11_statementEnd_61 (q := 64) rfl (M_numberEnd (p + 1) 2 (by omega) (by decide) tx n I R hFR hT) imX11_numberEnd ln_X11_171 (by first | exact ka317 | exact ka318 | exact ka319 | exact ka320 | exact ka321 | exact ka322) (by decide) rfl rfl rfl rfl (Nat.le_of_ble_eq_true rfl) (by decide) (by decide) rfl rfl (fun rv gv Iv Rv hv => ?_)
    obtain ⟨rfl, rfl, rfl, rfl⟩ := hv
    refine q_iret hM dX11_statementEnd_64 rfl rfl ?_
    first
      | exact ⟨iv (congrArg enc (bod_d F k_0)).symm, rfl, rfl, rfl⟩
      | exact ⟨iv (congrArg enc (bod_i F k_1)).symm, rfl, rfl, rfl⟩
      | exact ⟨iv (congrArg enc (bod_u F k_2)).symm, rfl, rfl, rfl⟩
      | exact ⟨iv (congrArg enc (bod_x F k_0 k_1 k_2)).symm, rfl, rfl, rfl⟩
      | fail
  by_cases k_1 : sgn tx n p = 105
  · refine q_lsw hJ (off := 35) (tgt := 40) dX11_statementEnd_5 (by decide) (by rw [k_1]; decide) (by decide) ?_
    refine q_aload_n hJ dX11_statementEnd_40 (q := 41) rfl rfl (by first | rfl | exact isR_rr _) ?_
    refine q_iload_n hJ dX11_statementEnd_41 (q := 42) rfl rfl ?_
    refine q_iconst hJ (v := 1) dX11_statementEnd_42 (q := 43) rfl (by decide) ?_
    refine q_iadd hJ dX11_statementEnd_43 (q := 44) rfl ?_
    rw [nI_1 p]
    refine q_callV hJ dX11_statementEnd_44 (q := 47) rfl (M_insertEnd tx n (p + 1) (by have := sgn_lt (tx := tx) (n := n) (p := p) (by rw [k_1]; decide); omega) I R hFR hT) imX11_insertEnd ln_X11_183 (by first | exact ka317 | exact ka318 | exact ka319 | exact ka320 | exact ka321 | exact ka322) (by decide) rfl rfl rfl rfl (Nat.le_of_ble_eq_true rfl) (by decide) (by decide) rfl rfl (fun rv gv Iv Rv hv => ?_)
    obtain ⟨rfl, rfl, rfl, rfl⟩ := hv
    refine q_iret hM dX11_statementEnd_47 rfl rfl ?_
    first
      | exact ⟨iv (congrArg enc (bod_d F k_0)).symm, rfl, rfl, rfl⟩
      | exact ⟨iv (congrArg enc (bod_i F k_1)).symm, rfl, rfl, rfl⟩
      | exact ⟨iv (congrArg enc (bod_u F k_2)).symm, rfl, rfl, rfl⟩
      | exact ⟨iv (congrArg enc (bod_x F k_0 k_1 k_2)).symm, rfl, rfl, rfl⟩
      | fail
  by_cases k_2 : sgn tx n p = 117
  · refine q_lsw hJ (off := 43) (tgt := 48) dX11_statementEnd_5 (by decide) (by rw [k_2]; decide) (by decide) ?_
    refine q_aload_n hJ dX11_statementEnd_48 (q := 49) rfl rfl (by first | rfl | exact isR_rr _) ?_
    refine q_iload_n hJ dX11_statementEnd_49 (q := 50) rfl rfl ?_
    refine q_iconst hJ (v := 1) dX11_statementEnd_50 (q := 51) rfl (by decide) ?_
    refine q_iadd hJ dX11_statementEnd_51 (q := 52) rfl ?_
    rw [nI_1 p]
    refine q_callV hJ dX11_statementEnd_52 (q := 55) rfl (M_updateEnd tx n (p + 1) (by have := sgn_lt (tx := tx) (n := n) (p := p) (by rw [k_2]; decide); omega) I R hFR hT) imX11_updateEnd ln_X11_186 (by first | exact ka317 | exact ka318 | exact ka319 | exact ka320 | exact ka321 | exact ka322) (by decide) rfl rfl rfl rfl (Nat.le_of_ble_eq_true rfl) (by decide) (by decide) rfl rfl (fun rv gv Iv Rv hv => ?_)
    obtain ⟨rfl, rfl, rfl, rfl⟩ := hv
    refine q_iret hM dX11_statementEnd_55 rfl rfl ?_
    first
      | exact ⟨iv (congrArg enc (bod_d F k_0)).symm, rfl, rfl, rfl⟩
      | exact ⟨iv (congrArg enc (bod_i F k_1)).symm, rfl, rfl, rfl⟩
      | exact ⟨iv (congrArg enc (bod_u F k_2)).symm, rfl, rfl, rfl⟩
      | exact ⟨iv (congrArg enc (bod_x F k_0 k_1 k_2)).symm, rfl, rfl, rfl⟩
      | fail
  refine q_lsw hJ (off := 60) (tgt := 65) dX11_statementEnd_5 (by decide) (lsw_out3 (k0 := 100) (by decide) k_0 (k1 := 105) (by decide) k_1 (k2 := 117) (by decide) k_2) (by decide) ?_
  refine q_iconst hJ (v := (-1)) dX11_statementEnd_65 (q := 66) rfl (by decide) ?_
  refine q_iload_n hJ dX11_statementEnd_66 (q := 67) rfl rfl ?_
  refine q_isub hJ dX11_statementEnd_67 (q := 68) rfl ?_
  refine q_iret hM dX11_statementEnd_68 rfl rfl ?_
  first
    | exact ⟨iv (congrArg enc (bod_d F k_0)).symm, rfl, rfl, rfl⟩
    | exact ⟨iv (congrArg enc (bod_i F k_1)).symm, rfl, rfl, rfl⟩
    | exact ⟨iv (congrArg enc (bod_u F k_2)).symm, rfl, rfl, rfl⟩
    | exact ⟨iv (congrArg enc (bod_x F k_0 k_1 k_2)).symm, rfl, rfl, rfl⟩
    | fail

def fltV (Z : PS × Nat × (Nat → Int32)) : Int32 := if Z.1.2 = true then nI Z.1.1 else -1006
theorem bod_mono {tx : Nat → Int32} {n p : Nat} (F : Nat → Int32) (hp : p ≤ n + 1) : (bodS tx n (p, false) F).1.1 ≤ n + 1 ∧ ((bodS tx n (p, false) F).1.2 = false → p + 1 ≤ (bodS tx n (p, false) F).1.1 ∧ (bodS tx n (p, false) F).1.1 ≤ n) := by
  by_cases h0 : sgn tx n p = 100
  · have hl := sgn_lt (tx := tx) (n := n) (p := p) (by rw [h0]; decide)
    rw [bod_d F h0]
    have h := num_mono (tx := tx) (n := n) (m := 2) (P := (p + 1, false)) hl
    exact ⟨by have := h.2; omega, fun _ => h⟩
  · by_cases h1 : sgn tx n p = 105
    · have hl := sgn_lt (tx := tx) (n := n) (p := p) (by rw [h1]; decide)
      rw [bod_i F h1]
      have a1 := num_mono (tx := tx) (n := n) (m := 2) (P := (p + 1, false)) hl
      have a2 := pass_mono (tx := tx) (c := 61) (by decide) a1.2
      have a3 := val_mono (tx := tx) a2.2
      have a4 := pass_mono (tx := tx) (c := 44) (by decide) a3.2
      have a5 := val_mono (tx := tx) a4.2
      have a6 := pass_mono (tx := tx) (c := 44) (by decide) a5.2
      have a7 := val_mono (tx := tx) a6.2
      have b1 : p + 1 ≤ _ := a1.1
      exact ⟨by have := a7.2; omega, fun _ => ⟨by omega, a7.2⟩⟩
    · by_cases h2 : sgn tx n p = 117
      · have hl := sgn_lt (tx := tx) (n := n) (p := p) (by rw [h2]; decide)
        rw [bod_u F h2]
        have a1 := num_mono (tx := tx) (n := n) (m := 2) (P := (p + 1, false)) hl
        have a2 := pass_mono (tx := tx) (c := 46) (by decide) a1.2
        have a3 := digF_mono (tx := tx) (m := 2) a2.2
        have a4 := pass_mono (tx := tx) (c := 61) (by decide) a3.2
        have a5 := val_mono (tx := tx) a4.2
        have b1 : p + 1 ≤ _ := a1.1
        exact ⟨by have := a5.2; omega, fun _ => ⟨by omega, a5.2⟩⟩
      · rw [bod_x F h0 h1 h2]
        exact ⟨hp, fun z => absurd z (by simp)⟩
/-- where the next statement begins -/
def At (tx : Nat → Int32) (n : Nat) (P : PS) (p : Nat) : Prop := P.2 = false ∧ ((P.1 = 0 ∧ p = 0) ∨ (0 < P.1 ∧ p = P.1 + 1 ∧ sgn tx n P.1 = 59))
theorem At.stm {tx : Nat → Int32} {n : Nat} {P : PS} {p : Nat} (h : At tx n P p) (F : Nat → Int32) : stmS tx n P F = bodS tx n (p, false) F := by
  obtain ⟨e, b⟩ := P
  obtain ⟨hb, h⟩ := h
  have hb' : b = false := hb
  subst hb'
  unfold stmS
  rcases h with ⟨h1, h2⟩ | ⟨h1, h2, h3⟩
  · have h1' : e = 0 := h1
    subst h1' h2
    rfl
  · rw [if_pos h1, pass_here h3, h2]
theorem stm_bad {tx : Nat → Int32} {n e : Nat} (h0 : 0 < e) (h : ¬ sgn tx n e = 59) (F : Nat → Int32) : stmS tx n (e, false) F = ((e, true), F) := by
  unfold stmS
  rw [if_pos (show 0 < ((e, false) : PS).1 from h0), show passF tx n 59 (e, false) = (e, true) from if_neg h]
  unfold bodS
  rw [here_bad, if_neg (by decide), if_neg (by decide), if_neg (by decide)]
set_option maxRecDepth 100000 in
set_option maxHeartbeats 400000 in
theorem M_fault (tx : Nat → Int32) (n : Nat) (F0 : Nat → Int32) (I : MI) (R : MR) (hFR : FR R) (hT : TXM I tx n) : Sp 7 0 0 mX11_fault [.ref 317] g0 I R (Mv (fltV (cntR tx n F0)) I R) := by
  have hm0 := hFR.2.2.2.2.2.1
  have hm1 := hFR.2.2.2.2.2.2.1
  have hm3 := hFR.2.2.2.2.2.2.2.1
  have hm5 := hFR.2.2.2.2.2.2.2.2.1
  have hm7 := hFR.2.2.2.2.2.2.2.2.2
  have t1 := hT.1
  have t2 := hT.2.1
  have t3 := hT.2.2
  refine Sp.on (by decide +kernel) rfl rfl (fun J hM => ?_)
  have hJ := hM.ok
  have loop : ∀ (k c p : Nat) (P : PS) (F : Nat → Int32) (y : Option Value), k + c = 80 → 2 * c ≤ p → p ≤ n + 1 → At tx n P p → fltV (cntR tx n F0) = fltV (cntF tx n k c P F) → J 0 0 4 [some (.ref 317), some (.int (nI p)), some (.int (nI c)), y] [] g0 I R := by
    intro k
    induction k with
    | zero =>
      intro c p P F y hm h2c hpn hat hr
      omega
    | succ k ih =>
      intro c p P F y hm h2c hpn hat hr
      have hst := hat.stm F
      have hmo := bod_mono (tx := tx) (n := n) F hpn
      refine q_iload_n hJ dX11_fault_4 (q := 5) rfl rfl ?_
      refine q_bipush hJ (v := 80) dX11_fault_5 (q := 7) rfl (by decide) ?_
      refine q_icmp_ge hJ (tgt := 58) dX11_fault_7 (q := 10) rfl (by decide) (fun c5 => absurd ((nI_leI (a := 80) (b := c) (by decide) (by omega)).mp c5) (by omega)) (fun _ => ?_)
      refine q_aload_n hJ dX11_fault_10 (q := 11) rfl rfl (by first | rfl | exact isR_rr _) ?_
      refine q_iload_n hJ dX11_fault_11 (q := 12) rfl rfl ?_
      refine q_callV hJ dX11_fault_12 (q := 15) rfl (M_statementEnd tx n p hpn F I R hFR hT) imX11_statementEnd ln_X11_189 (by first | exact ka317 | exact ka318 | exact ka319 | exact ka320 | exact ka321 | exact ka322) (by decide) rfl rfl rfl rfl (Nat.le_of_ble_eq_true rfl) (by decide) (by decide) rfl rfl (fun rv gv Iv Rv hv => ?_)
      obtain ⟨rfl, rfl, rfl, rfl⟩ := hv
      obtain ⟨⟨e, b⟩, hE⟩ : ∃ E : PS, E = (bodS tx n (p, false) F).1 := ⟨_, rfl⟩
      rw [← hE] at hmo ⊢
      refine q_istore_n hJ dX11_fault_15 (q := 16) rfl (by decide) ?_
      refine q_iload_n hJ dX11_fault_16 (q := 17) rfl rfl ?_
      refine q_if_ge hJ (tgt := 24) dX11_fault_17 (q := 20) rfl (by decide) (fun c1 => ?_) (fun c1 => ?_)
      · have he : e ≤ n + 1 := hmo.1
        have e1 := (enc_le (P := (e, b)) (by show e ≤ 200; omega)).mp c1
        have e2 : b = false := e1
        subst e2
        have hm2 : p + 1 ≤ e ∧ e ≤ n := hmo.2 rfl
        rw [show enc (e, false) = nI e from rfl]
        refine q_iload_n hJ dX11_fault_24 (q := 25) rfl rfl ?_
        refine q_aload_n hJ dX11_fault_25 (q := 26) rfl rfl (by first | rfl | exact isR_rr _) ?_
        refine q_getI hJ dX11_fault_26 (q := 29) rfl fl_X11_161 rfl (by first | exact ka317 | exact ka318 | exact ka319 | exact ka320 | exact ka321 | exact ka322) t1 ?_
        refine q_icmp_ne hJ (tgt := 36) dX11_fault_29 (q := 32) rfl (by decide) (fun c2 => ?_) (fun c2 => ?_)
        · refine q_aload_n hJ dX11_fault_36 (q := 37) rfl rfl (by first | rfl | exact isR_rr _) ?_
          refine q_iload_n hJ dX11_fault_37 (q := 38) rfl rfl ?_
          refine q_callV hJ dX11_fault_38 (q := 41) rfl (M_sign e (by omega) tx n I R hFR hT) imX11_sign ln_X11_164 (by first | exact ka317 | exact ka318 | exact ka319 | exact ka320 | exact ka321 | exact ka322) (by decide) rfl rfl rfl rfl (Nat.le_of_ble_eq_true rfl) (by decide) (by decide) rfl rfl (fun rv gv Iv Rv hv => ?_)
          obtain ⟨rfl, rfl, rfl, rfl⟩ := hv
          refine q_bipush hJ (v := 59) dX11_fault_41 (q := 43) rfl (by decide) ?_
          refine q_icmp_eq hJ (tgt := 48) dX11_fault_43 (q := 46) rfl (by decide) (fun c3 => ?_) (fun c3 => ?_)
          · refine q_iload_n hJ dX11_fault_48 (q := 49) rfl rfl ?_
            refine q_iconst hJ (v := 1) dX11_fault_49 (q := 50) rfl (by decide) ?_
            refine q_iadd hJ dX11_fault_50 (q := 51) rfl ?_
            refine q_istore_n hJ dX11_fault_51 (q := 52) rfl (by decide) ?_
            refine q_iinc hJ dX11_fault_52 (q := 55) rfl (by decide) rfl (nI_1 c) ?_
            refine q_goto hJ (tgt := 4) dX11_fault_55 (by decide) ?_
            have hn : ¬ n ≤ ((e, false) : PS).1 := fun z => c2 (by rw [show e = n by have : n ≤ e := z; omega])
            rw [show nI e + 1 = nI (e + 1) from nI_1 e]
            refine ih (c + 1) (e + 1) (e, false) (bodS tx n (p, false) F).2 _ (by omega) (by omega) (by omega) ⟨rfl, Or.inr ⟨by show 0 < e; omega, rfl, c3⟩⟩ ?_
            rw [hr, cntF, hst, if_neg (by rw [← hE]; rintro (z | z | z); exact absurd z (by simp); exact hn z; omega), ← hE]
          · refine q_iload_n hJ dX11_fault_46 (q := 47) rfl rfl ?_
            refine q_iret hM dX11_fault_47 rfl rfl ?_
            have hn : ¬ n ≤ ((e, false) : PS).1 := fun z => c2 (by rw [show e = n by have : n ≤ e := z; omega])
            obtain ⟨k2, rfl⟩ : ∃ t, k = t + 1 := ⟨k - 1, by omega⟩
            refine ⟨iv ?_, rfl, rfl, rfl⟩
            rw [hr, cntF, hst, ← hE, if_neg (by rintro (z | z | z); exact absurd z (by simp); exact hn z; omega)]
            rw [cntF, stm_bad (by omega) c3, if_pos (Or.inl rfl)]
            rfl
        · refine q_sipush hJ (v := (-1006)) dX11_fault_32 (q := 35) rfl (by decide) ?_
          refine q_iret hM dX11_fault_35 rfl rfl ?_
          have en : e = n := (nI_eq (by omega) (by omega)).mp c2
          refine ⟨iv ?_, rfl, rfl, rfl⟩
          rw [hr, cntF, hst, ← hE, if_pos (Or.inr (Or.inl (by show n ≤ e; omega)))]
          rfl
      · refine q_iconst hJ (v := (-1)) dX11_fault_20 (q := 21) rfl (by decide) ?_
        refine q_iload_n hJ dX11_fault_21 (q := 22) rfl rfl ?_
        refine q_isub hJ dX11_fault_22 (q := 23) rfl ?_
        refine q_iret hM dX11_fault_23 rfl rfl ?_
        have e1 : ¬ b = false := fun z => absurd ((enc_le (P := (e, b)) (by show e ≤ 200; have := hmo.1; have h2 : e ≤ n + 1 := this; omega)).mpr z) (Int32.not_le.mpr (Int32.not_le.mp c1))
        have e2 : b = true := by cases b <;> simp_all
        subst e2
        have he : e ≤ n + 1 := hmo.1
        refine ⟨iv ?_, rfl, rfl, rfl⟩
        rw [hr, cntF, hst, ← hE, if_pos (Or.inl rfl)]
        exact enc_inv (by omega)
  refine q_iconst hJ (v := 0) dX11_fault_0 (q := 1) rfl (by decide) ?_
  refine q_istore_n hJ dX11_fault_1 (q := 2) rfl (by decide) ?_
  refine q_iconst hJ (v := 0) dX11_fault_2 (q := 3) rfl (by decide) ?_
  refine q_istore_n hJ dX11_fault_3 (q := 4) rfl (by decide) ?_
  exact loop 80 0 0 P0 F0 _ rfl (Nat.zero_le _) (by omega) ⟨rfl, Or.inl ⟨rfl, rfl⟩⟩ rfl

