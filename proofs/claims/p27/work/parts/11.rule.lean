/-! RULE, second part; TABLE -/
def cmpF (h v n : Int32) : Int32 := if h = 0 then (if n ≤ v then 0 else 1) else if h = 1 then (if n < v then 0 else 1) else if h = 2 then (if v = n then 1 else 0) else if h = 3 then (if v = n then 0 else 1) else if h = 4 then (if v < n then 0 else 1) else (if v ≤ n then 0 else 1)
def clampF (v : Int32) : Int32 := if -999 < (if v < 999 then v else 999) then (if v < 999 then v else 999) else -999
def tellF (i : Nat → Int32) (w : Int32) : Int32 := if w = 0 then i 0 else if w = 1 then i 1 else if w = 2 then i 2 else if w = 3 then i 3 else if w = 4 then i 4 else if w = 5 then i 5 else if w = 6 then i 6 else if w = 7 then i 7 else if w = 8 then i 8 else if w = 9 then i 9 else if w = 10 then (if i 10 = 0 then 0 else 1) else if w = 11 then i 11 else -1002
theorem cmpF_01 (h v n : Int32) : cmpF h v n = 0 ∨ cmpF h v n = 1 := by
  unfold cmpF
  repeat' split
  all_goals first | exact Or.inl rfl | exact Or.inr rfl
theorem ruN_cp (I : MI) (a b : Nat) (hne : b ≠ a) : up2 (up2 (ruD (ruN I a (I b 0) (I b 1) (I b 2) (I b 3) (I b 4) (I b 5) (I b 6)) a (I b 7) (I b 8) (I b 9)) a 10 (I b 10)) a 11 (I b 11) = cp0 I b a 12 := by
  funext c j
  by_cases hc : c = a
  · subst hc
    match j with
    | 0 | 1 | 2 | 3 | 4 | 5 | 6 | 7 | 8 | 9 | 10 | 11 => simp [cp0, ruN, ruD, ru7, up2_app]
    | j + 12 =>
      have e : ¬ j + 12 < 12 := by omega
      simp [cp0, ruN, ruD, ru7, up2_app, e]
  · simp [cp0, ruN, ruD, ru7, up2_app, hc]
theorem ruN_other {I : MI} {a b : Nat} (hne : b ≠ a) (e m r k x y z : Int32) (j : Nat) : ruN I a e m r k x y z b j = I b j := by simp [ruN, ruD, ru7, up2_app, hne]
theorem ruD_other {I : MI} {a b : Nat} (hne : b ≠ a) (x y z : Int32) (j : Nat) : ruD I a x y z b j = I b j := by simp [ruD, up2_app, hne]
theorem rwS_cp (I : MI) (a b : Nat) : rwS I a (I b 0) (I b 1) (I b 2) (I b 3) = cp0 I b a 4 := by
  funext c j
  by_cases hc : c = a
  · subst hc
    match j with
    | 0 | 1 | 2 | 3 => simp [cp0, rwS, up2_app]
    | j + 4 =>
      have e : ¬ j + 4 < 4 := by omega
      simp [cp0, rwS, up2_app, e]
  · simp [cp0, rwS, up2_app, hc]
set_option maxRecDepth 100000 in
set_option maxHeartbeats 400000 in
theorem S_isFor (a : Nat) (e m : Int32) (I : MI) (R : MR) (hk : KA g0 a 5 0) : Sp 0 0 0 mX5_isFor [.ref a, .int e, .int m] g0 I R (Rt (some (.int (if I a 0 = e ∧ I a 1 = m then 1 else 0))) g0 I R) := by
  refine Sp.on (by decide +kernel) rfl rfl (fun J hM => ?_)
  have hJ := hM.ok
  refine q_aload_n hJ dX5_isFor_0 (q := 1) rfl rfl rfl ?_
  refine q_getI hJ dX5_isFor_1 (q := 4) rfl fl_X5_9 rfl (by assumption) rfl ?_
  refine q_iload_n hJ dX5_isFor_4 (q := 5) rfl rfl ?_
  refine q_icmp_ne hJ (tgt := 20) dX5_isFor_5 (q := 8) rfl (by decide) (fun c1 => ?_) (fun c1 => ?_)
  · refine q_iconst hJ (v := 0) dX5_isFor_20 (q := 21) rfl (by decide) ?_
    refine q_iret hM dX5_isFor_21 rfl (nz rfl (by decide)) ?_
    exact ⟨by simp [*], rfl, rfl, rfl⟩
  · refine q_aload_n hJ dX5_isFor_8 (q := 9) rfl rfl rfl ?_
    refine q_getI hJ dX5_isFor_9 (q := 12) rfl fl_X5_15 rfl (by assumption) rfl ?_
    refine q_iload_n hJ dX5_isFor_12 (q := 13) rfl rfl ?_
    refine q_icmp_ne hJ (tgt := 20) dX5_isFor_13 (q := 16) rfl (by decide) (fun c2 => ?_) (fun c2 => ?_)
    · refine q_iconst hJ (v := 0) dX5_isFor_20 (q := 21) rfl (by decide) ?_
      refine q_iret hM dX5_isFor_21 rfl (nz rfl (by decide)) ?_
      exact ⟨by simp [*], rfl, rfl, rfl⟩
    · refine q_iconst hJ (v := 1) dX5_isFor_16 (q := 17) rfl (by decide) ?_
      refine q_goto hJ (tgt := 21) dX5_isFor_17 (by decide) ?_
      refine q_iret hM dX5_isFor_21 rfl (nz rfl (by decide)) ?_
      exact ⟨by simp [*], rfl, rfl, rfl⟩

set_option maxRecDepth 100000 in
set_option maxHeartbeats 400000 in
theorem S_holdsFor (a x : Nat) (I : MI) (R : MR) (hk : KA g0 a 5 0) (hk2 : KA g0 x 4 0) : Sp 1 0 0 mX5_holdsFor [.ref a, .ref x] g0 I R (Rt (some (.int (cmpF (I a 8) (rowF (I x) (I a 7)) (I a 9)))) g0 I R) := by
  refine Sp.on (by decide +kernel) rfl rfl (fun J hM => ?_)
  have hJ := hM.ok
  refine q_aload_n hJ dX5_holdsFor_0 (q := 1) rfl rfl rfl ?_
  refine q_aload_n hJ dX5_holdsFor_1 (q := 2) rfl rfl rfl ?_
  refine q_getI hJ dX5_holdsFor_2 (q := 5) rfl fl_X5_44 rfl (by assumption) rfl ?_
  refine q_callV hJ dX5_holdsFor_5 (q := 8) rfl (S_valueOf x (I a 7) I R hk2) imX4_valueOf ln_X5_57 (by assumption) (by decide) rfl rfl rfl rfl (Nat.le_of_ble_eq_true rfl) (by decide) (by decide) rfl rfl (fun rv gv Iv Rv hv => ?_)
  obtain ⟨rfl, rfl, rfl, rfl⟩ := hv
  refine q_istore_n hJ dX5_holdsFor_8 (q := 9) rfl (by decide) ?_
  refine q_aload_n hJ dX5_holdsFor_9 (q := 10) rfl rfl rfl ?_
  refine q_getI hJ dX5_holdsFor_10 (q := 13) rfl fl_X5_47 rfl (by assumption) rfl ?_
  by_cases k1_0 : I a 8 = 0
  · refine q_tswIn hJ (off := 35) (tgt := 48) dX5_holdsFor_13 (by rw [k1_0]; decide) (by rw [k1_0]; decide) (by rw [k1_0]; decide) (by decide) ?_
    refine q_iload_n hJ dX5_holdsFor_48 (q := 49) rfl rfl ?_
    refine q_aload_n hJ dX5_holdsFor_49 (q := 50) rfl rfl rfl ?_
    refine q_getI hJ dX5_holdsFor_50 (q := 53) rfl fl_X5_50 rfl (by assumption) rfl ?_
    refine q_icmp_ge hJ (tgt := 60) dX5_holdsFor_53 (q := 56) rfl (by decide) (fun c2 => ?_) (fun c2 => ?_)
    · refine q_iconst hJ (v := 0) dX5_holdsFor_60 (q := 61) rfl (by decide) ?_
      refine q_iret hM dX5_holdsFor_61 rfl (nz rfl (by decide)) ?_
      exact ⟨by simp [cmpF, *], rfl, rfl, rfl⟩
    · refine q_iconst hJ (v := 1) dX5_holdsFor_56 (q := 57) rfl (by decide) ?_
      refine q_goto hJ (tgt := 61) dX5_holdsFor_57 (by decide) ?_
      refine q_iret hM dX5_holdsFor_61 rfl (nz rfl (by decide)) ?_
      exact ⟨by simp [cmpF, *], rfl, rfl, rfl⟩
  by_cases k1_1 : I a 8 = 1
  · refine q_tswIn hJ (off := 49) (tgt := 62) dX5_holdsFor_13 (by rw [k1_1]; decide) (by rw [k1_1]; decide) (by rw [k1_1]; decide) (by decide) ?_
    refine q_iload_n hJ dX5_holdsFor_62 (q := 63) rfl rfl ?_
    refine q_aload_n hJ dX5_holdsFor_63 (q := 64) rfl rfl rfl ?_
    refine q_getI hJ dX5_holdsFor_64 (q := 67) rfl fl_X5_50 rfl (by assumption) rfl ?_
    refine q_icmp_gt hJ (tgt := 74) dX5_holdsFor_67 (q := 70) rfl (by decide) (fun c3 => ?_) (fun c3 => ?_)
    · refine q_iconst hJ (v := 0) dX5_holdsFor_74 (q := 75) rfl (by decide) ?_
      refine q_iret hM dX5_holdsFor_75 rfl (nz rfl (by decide)) ?_
      exact ⟨by simp [cmpF, *], rfl, rfl, rfl⟩
    · refine q_iconst hJ (v := 1) dX5_holdsFor_70 (q := 71) rfl (by decide) ?_
      refine q_goto hJ (tgt := 75) dX5_holdsFor_71 (by decide) ?_
      refine q_iret hM dX5_holdsFor_75 rfl (nz rfl (by decide)) ?_
      exact ⟨by simp [cmpF, *], rfl, rfl, rfl⟩
  by_cases k1_2 : I a 8 = 2
  · refine q_tswIn hJ (off := 63) (tgt := 76) dX5_holdsFor_13 (by rw [k1_2]; decide) (by rw [k1_2]; decide) (by rw [k1_2]; decide) (by decide) ?_
    refine q_iload_n hJ dX5_holdsFor_76 (q := 77) rfl rfl ?_
    refine q_aload_n hJ dX5_holdsFor_77 (q := 78) rfl rfl rfl ?_
    refine q_getI hJ dX5_holdsFor_78 (q := 81) rfl fl_X5_50 rfl (by assumption) rfl ?_
    refine q_icmp_ne hJ (tgt := 88) dX5_holdsFor_81 (q := 84) rfl (by decide) (fun c4 => ?_) (fun c4 => ?_)
    · refine q_iconst hJ (v := 0) dX5_holdsFor_88 (q := 89) rfl (by decide) ?_
      refine q_iret hM dX5_holdsFor_89 rfl (nz rfl (by decide)) ?_
      exact ⟨by simp [cmpF, *], rfl, rfl, rfl⟩
    · refine q_iconst hJ (v := 1) dX5_holdsFor_84 (q := 85) rfl (by decide) ?_
      refine q_goto hJ (tgt := 89) dX5_holdsFor_85 (by decide) ?_
      refine q_iret hM dX5_holdsFor_89 rfl (nz rfl (by decide)) ?_
      exact ⟨by simp [cmpF, *], rfl, rfl, rfl⟩
  by_cases k1_3 : I a 8 = 3
  · refine q_tswIn hJ (off := 77) (tgt := 90) dX5_holdsFor_13 (by rw [k1_3]; decide) (by rw [k1_3]; decide) (by rw [k1_3]; decide) (by decide) ?_
    refine q_iload_n hJ dX5_holdsFor_90 (q := 91) rfl rfl ?_
    refine q_aload_n hJ dX5_holdsFor_91 (q := 92) rfl rfl rfl ?_
    refine q_getI hJ dX5_holdsFor_92 (q := 95) rfl fl_X5_50 rfl (by assumption) rfl ?_
    refine q_icmp_eq hJ (tgt := 102) dX5_holdsFor_95 (q := 98) rfl (by decide) (fun c5 => ?_) (fun c5 => ?_)
    · refine q_iconst hJ (v := 0) dX5_holdsFor_102 (q := 103) rfl (by decide) ?_
      refine q_iret hM dX5_holdsFor_103 rfl (nz rfl (by decide)) ?_
      exact ⟨by simp [cmpF, *], rfl, rfl, rfl⟩
    · refine q_iconst hJ (v := 1) dX5_holdsFor_98 (q := 99) rfl (by decide) ?_
      refine q_goto hJ (tgt := 103) dX5_holdsFor_99 (by decide) ?_
      refine q_iret hM dX5_holdsFor_103 rfl (nz rfl (by decide)) ?_
      exact ⟨by simp [cmpF, *], rfl, rfl, rfl⟩
  by_cases k1_4 : I a 8 = 4
  · refine q_tswIn hJ (off := 91) (tgt := 104) dX5_holdsFor_13 (by rw [k1_4]; decide) (by rw [k1_4]; decide) (by rw [k1_4]; decide) (by decide) ?_
    refine q_iload_n hJ dX5_holdsFor_104 (q := 105) rfl rfl ?_
    refine q_aload_n hJ dX5_holdsFor_105 (q := 106) rfl rfl rfl ?_
    refine q_getI hJ dX5_holdsFor_106 (q := 109) rfl fl_X5_50 rfl (by assumption) rfl ?_
    refine q_icmp_lt hJ (tgt := 116) dX5_holdsFor_109 (q := 112) rfl (by decide) (fun c6 => ?_) (fun c6 => ?_)
    · refine q_iconst hJ (v := 0) dX5_holdsFor_116 (q := 117) rfl (by decide) ?_
      refine q_iret hM dX5_holdsFor_117 rfl (nz rfl (by decide)) ?_
      exact ⟨by simp [cmpF, *], rfl, rfl, rfl⟩
    · refine q_iconst hJ (v := 1) dX5_holdsFor_112 (q := 113) rfl (by decide) ?_
      refine q_goto hJ (tgt := 117) dX5_holdsFor_113 (by decide) ?_
      refine q_iret hM dX5_holdsFor_117 rfl (nz rfl (by decide)) ?_
      exact ⟨by simp [cmpF, *], rfl, rfl, rfl⟩
  refine q_tswOut hJ (tgt := 118) dX5_holdsFor_13 (tsw_out5 k1_0 k1_1 k1_2 k1_3 k1_4) (by decide) ?_
  refine q_iload_n hJ dX5_holdsFor_118 (q := 119) rfl rfl ?_
  refine q_aload_n hJ dX5_holdsFor_119 (q := 120) rfl rfl rfl ?_
  refine q_getI hJ dX5_holdsFor_120 (q := 123) rfl fl_X5_50 rfl (by assumption) rfl ?_
  refine q_icmp_le hJ (tgt := 130) dX5_holdsFor_123 (q := 126) rfl (by decide) (fun c7 => ?_) (fun c7 => ?_)
  · refine q_iconst hJ (v := 0) dX5_holdsFor_130 (q := 131) rfl (by decide) ?_
    refine q_iret hM dX5_holdsFor_131 rfl (nz rfl (by decide)) ?_
    exact ⟨by simp [cmpF, *], rfl, rfl, rfl⟩
  · refine q_iconst hJ (v := 1) dX5_holdsFor_126 (q := 127) rfl (by decide) ?_
    refine q_goto hJ (tgt := 131) dX5_holdsFor_127 (by decide) ?_
    refine q_iret hM dX5_holdsFor_131 rfl (nz rfl (by decide)) ?_
    exact ⟨by simp [cmpF, *], rfl, rfl, rfl⟩

set_option maxRecDepth 100000 in
set_option maxHeartbeats 400000 in
theorem S_valueFor (a x : Nat) (I : MI) (R : MR) (hk : KA g0 a 5 0) (hk2 : KA g0 x 4 0) : Sp 1 0 0 mX5_valueFor [.ref a, .ref x] g0 I R (Rt (some (.int (clampF (rowF (I x) (I a 5) + I a 6)))) g0 I R) := by
  refine Sp.on (by decide +kernel) rfl rfl (fun J hM => ?_)
  have hJ := hM.ok
  refine q_sipush hJ (v := (-999)) dX5_valueFor_0 (q := 3) rfl (by decide) ?_
  refine q_sipush hJ (v := 999) dX5_valueFor_3 (q := 6) rfl (by decide) ?_
  refine q_aload_n hJ dX5_valueFor_6 (q := 7) rfl rfl rfl ?_
  refine q_aload_n hJ dX5_valueFor_7 (q := 8) rfl rfl rfl ?_
  refine q_getI hJ dX5_valueFor_8 (q := 11) rfl fl_X5_27 rfl (by assumption) rfl ?_
  refine q_callV hJ dX5_valueFor_11 (q := 14) rfl (S_valueOf x (I a 5) I R hk2) imX4_valueOf ln_X5_57 (by assumption) (by decide) rfl rfl rfl rfl (Nat.le_of_ble_eq_true rfl) (by decide) (by decide) rfl rfl (fun rv gv Iv Rv hv => ?_)
  obtain ⟨rfl, rfl, rfl, rfl⟩ := hv
  refine q_aload_n hJ dX5_valueFor_14 (q := 15) rfl rfl rfl ?_
  refine q_getI hJ dX5_valueFor_15 (q := 18) rfl fl_X5_30 rfl (by assumption) rfl ?_
  refine q_iadd hJ dX5_valueFor_18 (q := 19) rfl ?_
  refine q_min hJ dX5_valueFor_19 (q := 22) rfl ln_X5_63 mw_min rfl (Nat.le_of_ble_eq_true rfl) (by decide) (by decide) ?_
  refine q_max hJ dX5_valueFor_22 (q := 25) rfl ln_X5_69 mw_max rfl (Nat.le_of_ble_eq_true rfl) (by decide) (by decide) ?_
  refine q_iret hM dX5_valueFor_25 rfl rfl ?_
  exact ⟨rfl, rfl, rfl, rfl⟩

set_option maxRecDepth 100000 in
set_option maxHeartbeats 400000 in
theorem S_ruleTell (a : Nat) (w : Int32) (I : MI) (R : MR) (hk : KA g0 a 5 0) : Sp 0 0 0 mX5_tell [.ref a, .int w] g0 I R (Rt (some (.int (tellF (I a) w))) g0 I R) := by
  refine Sp.on (by decide +kernel) rfl rfl (fun J hM => ?_)
  have hJ := hM.ok
  refine q_iload_n hJ dX5_tell_0 (q := 1) rfl rfl ?_
  by_cases k1_0 : w = 0
  · refine q_tswIn hJ (off := 63) (tgt := 64) dX5_tell_1 (by rw [k1_0]; decide) (by rw [k1_0]; decide) (by rw [k1_0]; decide) (by decide) ?_
    refine q_aload_n hJ dX5_tell_64 (q := 65) rfl rfl rfl ?_
    refine q_getI hJ dX5_tell_65 (q := 68) rfl fl_X5_9 rfl (by assumption) rfl ?_
    refine q_iret hM dX5_tell_68 rfl rfl ?_
    exact ⟨by simp [tellF, *], rfl, rfl, rfl⟩
  by_cases k1_1 : w = 1
  · refine q_tswIn hJ (off := 68) (tgt := 69) dX5_tell_1 (by rw [k1_1]; decide) (by rw [k1_1]; decide) (by rw [k1_1]; decide) (by decide) ?_
    refine q_aload_n hJ dX5_tell_69 (q := 70) rfl rfl rfl ?_
    refine q_getI hJ dX5_tell_70 (q := 73) rfl fl_X5_15 rfl (by assumption) rfl ?_
    refine q_iret hM dX5_tell_73 rfl rfl ?_
    exact ⟨by simp [tellF, *], rfl, rfl, rfl⟩
  by_cases k1_2 : w = 2
  · refine q_tswIn hJ (off := 73) (tgt := 74) dX5_tell_1 (by rw [k1_2]; decide) (by rw [k1_2]; decide) (by rw [k1_2]; decide) (by decide) ?_
    refine q_aload_n hJ dX5_tell_74 (q := 75) rfl rfl rfl ?_
    refine q_getI hJ dX5_tell_75 (q := 78) rfl fl_X5_18 rfl (by assumption) rfl ?_
    refine q_iret hM dX5_tell_78 rfl rfl ?_
    exact ⟨by simp [tellF, *], rfl, rfl, rfl⟩
  by_cases k1_3 : w = 3
  · refine q_tswIn hJ (off := 78) (tgt := 79) dX5_tell_1 (by rw [k1_3]; decide) (by rw [k1_3]; decide) (by rw [k1_3]; decide) (by decide) ?_
    refine q_aload_n hJ dX5_tell_79 (q := 80) rfl rfl rfl ?_
    refine q_getI hJ dX5_tell_80 (q := 83) rfl fl_X5_21 rfl (by assumption) rfl ?_
    refine q_iret hM dX5_tell_83 rfl rfl ?_
    exact ⟨by simp [tellF, *], rfl, rfl, rfl⟩
  by_cases k1_4 : w = 4
  · refine q_tswIn hJ (off := 83) (tgt := 84) dX5_tell_1 (by rw [k1_4]; decide) (by rw [k1_4]; decide) (by rw [k1_4]; decide) (by decide) ?_
    refine q_aload_n hJ dX5_tell_84 (q := 85) rfl rfl rfl ?_
    refine q_getI hJ dX5_tell_85 (q := 88) rfl fl_X5_24 rfl (by assumption) rfl ?_
    refine q_iret hM dX5_tell_88 rfl rfl ?_
    exact ⟨by simp [tellF, *], rfl, rfl, rfl⟩
  by_cases k1_5 : w = 5
  · refine q_tswIn hJ (off := 88) (tgt := 89) dX5_tell_1 (by rw [k1_5]; decide) (by rw [k1_5]; decide) (by rw [k1_5]; decide) (by decide) ?_
    refine q_aload_n hJ dX5_tell_89 (q := 90) rfl rfl rfl ?_
    refine q_getI hJ dX5_tell_90 (q := 93) rfl fl_X5_27 rfl (by assumption) rfl ?_
    refine q_iret hM dX5_tell_93 rfl rfl ?_
    exact ⟨by simp [tellF, *], rfl, rfl, rfl⟩
  by_cases k1_6 : w = 6
  · refine q_tswIn hJ (off := 93) (tgt := 94) dX5_tell_1 (by rw [k1_6]; decide) (by rw [k1_6]; decide) (by rw [k1_6]; decide) (by decide) ?_
    refine q_aload_n hJ dX5_tell_94 (q := 95) rfl rfl rfl ?_
    refine q_getI hJ dX5_tell_95 (q := 98) rfl fl_X5_30 rfl (by assumption) rfl ?_
    refine q_iret hM dX5_tell_98 rfl rfl ?_
    exact ⟨by simp [tellF, *], rfl, rfl, rfl⟩
  by_cases k1_7 : w = 7
  · refine q_tswIn hJ (off := 98) (tgt := 99) dX5_tell_1 (by rw [k1_7]; decide) (by rw [k1_7]; decide) (by rw [k1_7]; decide) (by decide) ?_
    refine q_aload_n hJ dX5_tell_99 (q := 100) rfl rfl rfl ?_
    refine q_getI hJ dX5_tell_100 (q := 103) rfl fl_X5_44 rfl (by assumption) rfl ?_
    refine q_iret hM dX5_tell_103 rfl rfl ?_
    exact ⟨by simp [tellF, *], rfl, rfl, rfl⟩
  by_cases k1_8 : w = 8
  · refine q_tswIn hJ (off := 103) (tgt := 104) dX5_tell_1 (by rw [k1_8]; decide) (by rw [k1_8]; decide) (by rw [k1_8]; decide) (by decide) ?_
    refine q_aload_n hJ dX5_tell_104 (q := 105) rfl rfl rfl ?_
    refine q_getI hJ dX5_tell_105 (q := 108) rfl fl_X5_47 rfl (by assumption) rfl ?_
    refine q_iret hM dX5_tell_108 rfl rfl ?_
    exact ⟨by simp [tellF, *], rfl, rfl, rfl⟩
  by_cases k1_9 : w = 9
  · refine q_tswIn hJ (off := 108) (tgt := 109) dX5_tell_1 (by rw [k1_9]; decide) (by rw [k1_9]; decide) (by rw [k1_9]; decide) (by decide) ?_
    refine q_aload_n hJ dX5_tell_109 (q := 110) rfl rfl rfl ?_
    refine q_getI hJ dX5_tell_110 (q := 113) rfl fl_X5_50 rfl (by assumption) rfl ?_
    refine q_iret hM dX5_tell_113 rfl rfl ?_
    exact ⟨by simp [tellF, *], rfl, rfl, rfl⟩
  by_cases k1_10 : w = 10
  · refine q_tswIn hJ (off := 113) (tgt := 114) dX5_tell_1 (by rw [k1_10]; decide) (by rw [k1_10]; decide) (by rw [k1_10]; decide) (by decide) ?_
    refine q_aload_n hJ dX5_tell_114 (q := 115) rfl rfl rfl ?_
    refine q_getI hJ dX5_tell_115 (q := 118) rfl fl_X5_37 rfl (by assumption) rfl ?_
    refine q_if_eq hJ (tgt := 125) dX5_tell_118 (q := 121) rfl (by decide) (fun c2 => ?_) (fun c2 => ?_)
    · refine q_iconst hJ (v := 0) dX5_tell_125 (q := 126) rfl (by decide) ?_
      refine q_iret hM dX5_tell_126 rfl rfl ?_
      exact ⟨by simp [tellF, *], rfl, rfl, rfl⟩
    · refine q_iconst hJ (v := 1) dX5_tell_121 (q := 122) rfl (by decide) ?_
      refine q_goto hJ (tgt := 126) dX5_tell_122 (by decide) ?_
      refine q_iret hM dX5_tell_126 rfl rfl ?_
      exact ⟨by simp [tellF, *], rfl, rfl, rfl⟩
  by_cases k1_11 : w = 11
  · refine q_tswIn hJ (off := 126) (tgt := 127) dX5_tell_1 (by rw [k1_11]; decide) (by rw [k1_11]; decide) (by rw [k1_11]; decide) (by decide) ?_
    refine q_aload_n hJ dX5_tell_127 (q := 128) rfl rfl rfl ?_
    refine q_getI hJ dX5_tell_128 (q := 131) rfl fl_X5_41 rfl (by assumption) rfl ?_
    refine q_iret hM dX5_tell_131 rfl rfl ?_
    exact ⟨by simp [tellF, *], rfl, rfl, rfl⟩
  refine q_tswOut hJ (tgt := 132) dX5_tell_1 (tsw_out12 k1_0 k1_1 k1_2 k1_3 k1_4 k1_5 k1_6 k1_7 k1_8 k1_9 k1_10 k1_11) (by decide) ?_
  refine q_sipush hJ (v := (-1002)) dX5_tell_132 (q := 135) rfl (by decide) ?_
  refine q_iret hM dX5_tell_135 rfl rfl ?_
  exact ⟨by simp [tellF, *], rfl, rfl, rfl⟩

set_option maxRecDepth 100000 in
set_option maxHeartbeats 400000 in
theorem S_ruleCopy (a b : Nat) (I : MI) (R : MR) (hk : KA g0 a 5 0) (hk2 : KA g0 b 5 0) (hne : b ≠ a) (hon : I b 10 = 0 ∨ I b 10 = 1) : Sp 2 0 0 mX5_copyFrom [.ref a, .ref b] g0 I R (Rt none g0 (cp0 I b a 12) R) := by
  refine Sp.on (by decide +kernel) rfl rfl (fun J hM => ?_)
  have hJ := hM.ok
  refine q_aload_n hJ dX5_copyFrom_0 (q := 1) rfl rfl rfl ?_
  refine q_aload_n hJ dX5_copyFrom_1 (q := 2) rfl rfl rfl ?_
  refine q_getI hJ dX5_copyFrom_2 (q := 5) rfl fl_X5_9 rfl (by assumption) rfl ?_
  refine q_aload_n hJ dX5_copyFrom_5 (q := 6) rfl rfl rfl ?_
  refine q_getI hJ dX5_copyFrom_6 (q := 9) rfl fl_X5_15 rfl (by assumption) rfl ?_
  refine q_aload_n hJ dX5_copyFrom_9 (q := 10) rfl rfl rfl ?_
  refine q_getI hJ dX5_copyFrom_10 (q := 13) rfl fl_X5_18 rfl (by assumption) rfl ?_
  refine q_aload_n hJ dX5_copyFrom_13 (q := 14) rfl rfl rfl ?_
  refine q_getI hJ dX5_copyFrom_14 (q := 17) rfl fl_X5_21 rfl (by assumption) rfl ?_
  refine q_aload_n hJ dX5_copyFrom_17 (q := 18) rfl rfl rfl ?_
  refine q_getI hJ dX5_copyFrom_18 (q := 21) rfl fl_X5_24 rfl (by assumption) rfl ?_
  refine q_aload_n hJ dX5_copyFrom_21 (q := 22) rfl rfl rfl ?_
  refine q_getI hJ dX5_copyFrom_22 (q := 25) rfl fl_X5_27 rfl (by assumption) rfl ?_
  refine q_aload_n hJ dX5_copyFrom_25 (q := 26) rfl rfl rfl ?_
  refine q_getI hJ dX5_copyFrom_26 (q := 29) rfl fl_X5_30 rfl (by assumption) rfl ?_
  refine q_callV hJ dX5_copyFrom_29 (q := 32) rfl (S_define a (I b 0) (I b 1) (I b 2) (I b 3) (I b 4) (I b 5) (I b 6) I R hk) imX5_define ln_X5_53 (by assumption) (by decide) rfl rfl rfl rfl (Nat.le_of_ble_eq_true rfl) (by decide) (by decide) rfl rfl (fun rv gv Iv Rv hv => ?_)
  obtain ⟨rfl, rfl, rfl, rfl⟩ := hv
  refine q_aload_n hJ dX5_copyFrom_32 (q := 33) rfl rfl rfl ?_
  refine q_aload_n hJ dX5_copyFrom_33 (q := 34) rfl rfl rfl ?_
  refine q_getI hJ dX5_copyFrom_34 (q := 37) rfl fl_X5_44 rfl (by assumption) (ruN_other hne _ _ _ _ _ _ _ _) ?_
  refine q_aload_n hJ dX5_copyFrom_37 (q := 38) rfl rfl rfl ?_
  refine q_getI hJ dX5_copyFrom_38 (q := 41) rfl fl_X5_47 rfl (by assumption) (ruN_other hne _ _ _ _ _ _ _ _) ?_
  refine q_aload_n hJ dX5_copyFrom_41 (q := 42) rfl rfl rfl ?_
  refine q_getI hJ dX5_copyFrom_42 (q := 45) rfl fl_X5_50 rfl (by assumption) (ruN_other hne _ _ _ _ _ _ _ _) ?_
  refine q_callV hJ dX5_copyFrom_45 (q := 48) rfl (S_demand a (I b 7) (I b 8) (I b 9) _ R hk) imX5_demand ln_X5_33 (by assumption) (by decide) rfl rfl rfl rfl (Nat.le_of_ble_eq_true rfl) (by decide) (by decide) rfl rfl (fun rv gv Iv Rv hv => ?_)
  obtain ⟨rfl, rfl, rfl, rfl⟩ := hv
  refine q_aload_n hJ dX5_copyFrom_48 (q := 49) rfl rfl rfl ?_
  refine q_aload_n hJ dX5_copyFrom_49 (q := 50) rfl rfl rfl ?_
  refine q_getI hJ dX5_copyFrom_50 (q := 53) rfl fl_X5_37 rfl (by assumption) ((ruD_other hne _ _ _ _).trans (ruN_other hne _ _ _ _ _ _ _ _)) ?_
  refine q_putI hJ dX5_copyFrom_53 (q := 56) rfl fl_X5_37 rfl rfl (by assumption) (nz rfl hon) (by rcases hon with h | h <;> rw [h] <;> decide) ?_
  refine q_aload_n hJ dX5_copyFrom_56 (q := 57) rfl rfl rfl ?_
  refine q_aload_n hJ dX5_copyFrom_57 (q := 58) rfl rfl rfl ?_
  refine q_getI hJ dX5_copyFrom_58 (q := 61) rfl fl_X5_41 rfl (by assumption) (show up2 (ruD _ _ _ _ _) a 10 _ b 11 = I b 11 from by rw [up2_other _ _ _ _ hne, ruD_other hne, ruN_other hne]) ?_
  refine q_putI hJ dX5_copyFrom_61 (q := 64) rfl fl_X5_41 rfl rfl (by assumption) rfl rfl ?_
  refine q_vret hM dX5_copyFrom_64 rfl ?_
  exact ⟨rfl, rfl, (ruN_cp I a b hne).symm, rfl⟩

