/-! THE MODEL: reads -/
theorem in_n {x : Int32} {n : Nat} (hn : n < 1000) (h : ¬ inR x 0 (nI n) = 0) : ∃ j, j ≤ n ∧ x = nI j := by
  obtain ⟨h1, h2⟩ := inR_iff h
  exact nI_of2 (nI_toInt (by omega)) h1 (Int32.not_lt.mp h2)
theorem sub1_lt {m : Nat} {x : Int32} (hm : m ≤ 12) : nI m - 1 < x ↔ nI m ≤ x := by
  rw [Int32.lt_iff_toInt_lt, Int32.le_iff_toInt_le, Int32.toInt_sub, nI_toInt (by omega), show (1 : Int32).toInt = 1 from rfl, Int.bmod_eq_of_le (by omega) (by omega)]
  omega
set_option maxRecDepth 100000 in
set_option maxHeartbeats 400000 in
theorem M_isRule (m : Nat) (hm12 : m ≤ 12) (x : Int32) (I : MI) (R : MR) (hFR : FR R) (hm0x : I 318 (0 + 81) = nI m) : Sp 1 0 0 mX11_isRule [.ref 317, .int x] g0 I R (Mv (if x < 0 ∨ nI m ≤ x then 0 else 1) I R) := by
  have hm0 := hFR.2.2.2.2.2.1
  have hm1 := hFR.2.2.2.2.2.2.1
  have hm3 := hFR.2.2.2.2.2.2.2.1
  have hm5 := hFR.2.2.2.2.2.2.2.2.1
  have hm7 := hFR.2.2.2.2.2.2.2.2.2
  refine Sp.on (by decide +kernel) rfl rfl (fun J hM => ?_)
  have hJ := hM.ok
  refine q_iload_n hJ dX11_isRule_0 (q := 1) rfl rfl ?_
  refine q_iconst hJ (v := 0) dX11_isRule_1 (q := 2) rfl (by decide) ?_
  refine q_aload_n hJ dX11_isRule_2 (q := 3) rfl rfl (by first | rfl | exact isR_rr _) ?_
  refine q_getR hJ dX11_isRule_3 (q := 6) rfl fl_X11_7 rfl (by first | exact ka317 | exact ka318 | exact ka319 | exact ka320 | exact ka321 | exact ka322) (by assumption) rfl ?_
  refine q_bipush hJ (v := 81) dX11_isRule_6 (q := 8) rfl (by decide) ?_
  refine q_iald hJ dX11_isRule_8 (q := 9) rfl (by first | exact ka317 | exact ka318 | exact ka319 | exact ka320 | exact ka321 | exact ka322) (ixE (j := 81) (by ((try simp only [nIl_add, nI_mul, nIl_0, nIl_1, nIl_2, nIl_3, nIl_4, nIl_5, nIl_6, nIl_7, nIl_8, nIl_9, nIl_10, nIl_11, nIl_12, nIl_20, nIl_60, nIl_72, nIl_80, nIl_81, nIl_82, nIl_99, nIl_100, nIl_226, nIl_227, nIl_228, nIl_229, nIl_230, nIl_231, nIl_232, nIl_233, nIl_413, nIl_1239, nIl_10000]) <;> first | done | rfl | exact congrArg nI (by omega))) (by decide) (by decide)) (show _ = nI m from hm0x) ?_
  refine q_iconst hJ (v := 1) dX11_isRule_9 (q := 10) rfl (by decide) ?_
  refine q_isub hJ dX11_isRule_10 (q := 11) rfl ?_
  refine q_callS hJ dX11_isRule_11 (q := 14) rfl (M_in x 0 (nI m - 1) I R) imX11_in ln_X11_25 rfl rfl rfl (Nat.le_of_ble_eq_true rfl) (by decide) (by decide) rfl rfl (fun rv gv Iv Rv hv => ?_)
  obtain ⟨rfl, rfl, rfl, rfl⟩ := hv
  refine q_iret hM dX11_isRule_14 rfl (nz rfl (inR_01 _ _ _)) ?_
  refine ⟨congrArg (fun y => some (Value.int y)) ?_, rfl, rfl, rfl⟩
  unfold inR
  by_cases c : x < 0
  · rw [if_pos c, if_pos (Or.inl c)]
  · rw [if_neg c]
    by_cases c2 : nI m ≤ x
    · rw [if_pos ((sub1_lt hm12).mpr c2), if_pos (Or.inr c2)]
    · rw [if_neg (fun z => c2 ((sub1_lt hm12).mp z)), if_neg (fun z => z.elim c c2)]

set_option maxRecDepth 100000 in
set_option maxHeartbeats 400000 in
theorem M_field (k f : Int32) (A : AS) (hs : Nat → AS) (h : Nat) (sn : AS) (kp : Bool) (tx : Nat → Int32) (tn : Nat) (I : MI) (R : MR) (hFR : FR R) (H : MOD I A hs h sn kp tx tn) : Sp 1 0 0 mX11_field [.ref 317, .int k, .int f] g0 I R (Mv (fieldF A k f) I R) := by
  have hm0 := hFR.2.2.2.2.2.1
  have hm1 := hFR.2.2.2.2.2.2.1
  have hm3 := hFR.2.2.2.2.2.2.2.1
  have hm5 := hFR.2.2.2.2.2.2.2.2.1
  have hm7 := hFR.2.2.2.2.2.2.2.2.2
  have hR := H.1.1
  have ok := H.2.1.1
  refine Sp.on (by decide +kernel) rfl rfl (fun J hM => ?_)
  have hJ := hM.ok
  rcases hf : fK A k with _ | i
  · refine q_aload_n hJ dX11_field_0 (q := 1) rfl rfl (by first | rfl | exact isR_rr _) ?_
    refine q_iconst hJ (v := 0) dX11_field_1 (q := 2) rfl (by decide) ?_
    refine q_iload_n hJ dX11_field_2 (q := 3) rfl rfl ?_
    refine q_callV hJ dX11_field_3 (q := 6) rfl (M_rowOf I R 0 (aN A) k (by decide) hR.1 hR.2.1 hFR) imX11_rowOf ln_X11_54 (by first | exact ka317 | exact ka318 | exact ka319 | exact ka320 | exact ka321 | exact ka322) (by decide) rfl rfl rfl rfl (Nat.le_of_ble_eq_true rfl) (by decide) (by decide) rfl rfl (fun rv gv Iv Rv hv => ?_)
    obtain ⟨rfl, rfl, rfl, rfl⟩ := hv
    rw [hR.none hf, show rwI 0 none = -1 from rfl]
    refine q_istore_n hJ dX11_field_6 (q := 7) rfl (by decide) ?_
    refine q_iload_n hJ dX11_field_7 (q := 8) rfl rfl ?_
    refine q_if_ge hJ (tgt := 15) dX11_field_8 (q := 11) rfl (by decide) (fun cr => absurd cr (by decide)) (fun _ => ?_)
    refine q_sipush hJ (v := (-1001)) dX11_field_11 (q := 14) rfl (by decide) ?_
    refine q_iret hM dX11_field_14 rfl rfl ?_
    exact ⟨by unfold fieldF; rw [hf], rfl, rfl, rfl⟩
  · obtain ⟨j, hj, hm, he⟩ := hR.some ok hf
    have hj20 := hR.2.1
    refine q_aload_n hJ dX11_field_0 (q := 1) rfl rfl (by first | rfl | exact isR_rr _) ?_
    refine q_iconst hJ (v := 0) dX11_field_1 (q := 2) rfl (by decide) ?_
    refine q_iload_n hJ dX11_field_2 (q := 3) rfl rfl ?_
    refine q_callV hJ dX11_field_3 (q := 6) rfl (M_rowOf I R 0 (aN A) k (by decide) hR.1 hR.2.1 hFR) imX11_rowOf ln_X11_54 (by first | exact ka317 | exact ka318 | exact ka319 | exact ka320 | exact ka321 | exact ka322) (by decide) rfl rfl rfl rfl (Nat.le_of_ble_eq_true rfl) (by decide) (by decide) rfl rfl (fun rv gv Iv Rv hv => ?_)
    obtain ⟨rfl, rfl, rfl, rfl⟩ := hv
    rw [hm, show rwI 0 (some j) = nI (0 + 1 + 4 * j) from rfl]
    refine q_istore_n hJ dX11_field_6 (q := 7) rfl (by decide) ?_
    refine q_iload_n hJ dX11_field_7 (q := 8) rfl rfl ?_
    refine q_if_ge hJ (tgt := 15) dX11_field_8 (q := 11) rfl (by decide) (fun _ => ?_) (fun cr => absurd (nI_pos' (by omega)) cr)
    refine q_iload_n hJ dX11_field_15 (q := 16) rfl rfl ?_
    refine q_iconst hJ (v := 0) dX11_field_16 (q := 17) rfl (by decide) ?_
    refine q_iconst hJ (v := 2) dX11_field_17 (q := 18) rfl (by decide) ?_
    refine q_callS hJ dX11_field_18 (q := 21) rfl (M_in f 0 2 I R) imX11_in ln_X11_25 rfl rfl rfl (Nat.le_of_ble_eq_true rfl) (by decide) (by decide) rfl rfl (fun rv gv Iv Rv hv => ?_)
    obtain ⟨rfl, rfl, rfl, rfl⟩ := hv
    refine q_if_eq hJ (tgt := 37) dX11_field_21 (q := 24) rfl (by decide) (fun c2 => ?_) (fun c2 => ?_)
    · refine q_sipush hJ (v := (-1002)) dX11_field_37 (q := 40) rfl (by decide) ?_
      refine q_iret hM dX11_field_40 rfl rfl ?_
      first
        | exact ⟨congrArg (fun y => some (Value.int y)) (show aK A i (1 + f') = fieldF A k (nI f') by unfold fieldF; rw [hf]; exact ((if_neg c2).trans (rowF_n hf3)).symm), rfl, rfl, rfl⟩
        | exact ⟨congrArg (fun y => some (Value.int y)) (show (-1002 : Int32) = fieldF A k f by unfold fieldF; rw [hf]; exact (if_pos c2).symm), rfl, rfl, rfl⟩
    · obtain ⟨f', hf3, rfl⟩ := n_02 (inR_ne c2)
      refine q_aload_n hJ dX11_field_24 (q := 25) rfl rfl (by first | rfl | exact isR_rr _) ?_
      refine q_getR hJ dX11_field_25 (q := 28) rfl fl_X11_7 rfl (by first | exact ka317 | exact ka318 | exact ka319 | exact ka320 | exact ka321 | exact ka322) (by assumption) rfl ?_
      refine q_iload_n hJ dX11_field_28 (q := 29) rfl rfl ?_
      refine q_iconst hJ (v := 1) dX11_field_29 (q := 30) rfl (by decide) ?_
      refine q_iadd hJ dX11_field_30 (q := 31) rfl ?_
      refine q_iload_n hJ dX11_field_31 (q := 32) rfl rfl ?_
      refine q_iadd hJ dX11_field_32 (q := 33) rfl ?_
      refine q_iald hJ dX11_field_33 (q := 34) rfl (by first | exact ka317 | exact ka318 | exact ka319 | exact ka320 | exact ka321 | exact ka322) (ixE (j := 0 + 1 + 4 * j + 1 + f') (by ((try simp only [nIl_add, nI_mul, nIl_0, nIl_1, nIl_2, nIl_3, nIl_4, nIl_5, nIl_6, nIl_7, nIl_8, nIl_9, nIl_10, nIl_11, nIl_12, nIl_20, nIl_60, nIl_72, nIl_80, nIl_81, nIl_82, nIl_99, nIl_100, nIl_226, nIl_227, nIl_228, nIl_229, nIl_230, nIl_231, nIl_232, nIl_233, nIl_413, nIl_1239, nIl_10000]) <;> first | done | rfl | exact congrArg nI (by omega))) (by omega) (by decide)) (show _ = aK A i (1 + f') by rw [Nat.add_assoc (0 + 1 + 4 * j) 1 f']; exact he _ (by omega)) ?_
      refine q_goto hJ (tgt := 40) dX11_field_34 (by decide) ?_
      refine q_iret hM dX11_field_40 rfl rfl ?_
      first
        | exact ⟨congrArg (fun y => some (Value.int y)) (show aK A i (1 + f') = fieldF A k (nI f') by unfold fieldF; rw [hf]; exact ((if_neg c2).trans (rowF_n hf3)).symm), rfl, rfl, rfl⟩
        | exact ⟨congrArg (fun y => some (Value.int y)) (show (-1002 : Int32) = fieldF A k f by unfold fieldF; rw [hf]; exact (if_pos c2).symm), rfl, rfl, rfl⟩

theorem tell_n {u : Nat → Int32} {q : Nat} (h : q < 12) (h10 : u 10 = 0 ∨ u 10 = 1) : tellF u (nI q) = u q := by
  rcases (show q = 0 ∨ q = 1 ∨ q = 2 ∨ q = 3 ∨ q = 4 ∨ q = 5 ∨ q = 6 ∨ q = 7 ∨ q = 8 ∨ q = 9 ∨ q = 10 ∨ q = 11 by omega) with rfl | rfl | rfl | rfl | rfl | rfl | rfl | rfl | rfl | rfl | rfl | rfl
  all_goals first | rfl | skip
  show (if u 10 = 0 then (0 : Int32) else 1) = u 10
  rcases h10 with e | e <;> rw [e] <;> rfl
theorem tell_bad {u : Nat → Int32} {w : Int32} (h : inR w 0 11 = 0) : tellF u w = -1002 := by
  have key : ∀ q : Fin 12, ¬ w = nI q.1 := fun q e => by
    rw [e] at h
    exact absurd h ((by decide : ∀ q : Fin 12, ¬ inR (nI q.1) 0 11 = 0) q)
  unfold tellF
  rw [if_neg (show ¬ w = 0 from key 0), if_neg (show ¬ w = 1 from key 1), if_neg (show ¬ w = 2 from key 2), if_neg (show ¬ w = 3 from key 3), if_neg (show ¬ w = 4 from key 4), if_neg (show ¬ w = 5 from key 5), if_neg (show ¬ w = 6 from key 6), if_neg (show ¬ w = 7 from key 7), if_neg (show ¬ w = 8 from key 8), if_neg (show ¬ w = 9 from key 9), if_neg (show ¬ w = 10 from key 10), if_neg (show ¬ w = 11 from key 11)]
set_option maxRecDepth 100000 in
set_option maxHeartbeats 400000 in
theorem M_rule (x w : Int32) (A : AS) (hs : Nat → AS) (h : Nat) (sn : AS) (kp : Bool) (tx : Nat → Int32) (tn : Nat) (I : MI) (R : MR) (hFR : FR R) (H : MOD I A hs h sn kp tx tn) : Sp 2 0 0 mX11_rule [.ref 317, .int x, .int w] g0 I R (Mv (ruleF A x w) I R) := by
  have hm0 := hFR.2.2.2.2.2.1
  have hm1 := hFR.2.2.2.2.2.2.1
  have hm3 := hFR.2.2.2.2.2.2.2.1
  have hm5 := hFR.2.2.2.2.2.2.2.2.1
  have hm7 := hFR.2.2.2.2.2.2.2.2.2
  have hR := H.1.1
  have ok := H.2.1.1
  have hU := H.1.2.1
  have hm12 := hU.2.1
  have hS := H.1.2.2.1
  have hL := H.1.2.2.2
  have okr := H.2.1.2.1
  refine Sp.on (by decide +kernel) rfl rfl (fun J hM => ?_)
  have hJ := hM.ok
  refine q_aload_n hJ dX11_rule_0 (q := 1) rfl rfl (by first | rfl | exact isR_rr _) ?_
  refine q_iload_n hJ dX11_rule_1 (q := 2) rfl rfl ?_
  refine q_callV hJ dX11_rule_2 (q := 5) rfl (M_isRule (aM A) hm12 x I R hFR hU.1) imX11_isRule ln_X11_155 (by first | exact ka317 | exact ka318 | exact ka319 | exact ka320 | exact ka321 | exact ka322) (by decide) rfl rfl rfl rfl (Nat.le_of_ble_eq_true rfl) (by decide) (by decide) rfl rfl (fun rv gv Iv Rv hv => ?_)
  obtain ⟨rfl, rfl, rfl, rfl⟩ := hv
  refine q_if_ne hJ (tgt := 12) dX11_rule_5 (q := 8) rfl (by decide) (fun cR => ?_) (fun cR => ?_)
  · have hr0 : ¬ (x < 0 ∨ nI (aM A) ≤ x) := fun z => cR (if_pos z)
    obtain ⟨r, hr31, rfl⟩ := nI_of (fun z => hr0 (Or.inl z))
    have hr : r < aM A := (nI_ltI hr31 (by omega)).mp (Int32.not_le.mp (fun z => hr0 (Or.inr z)))
    have ecl : (nI r).toNatClampNeg = r := nI_clamp hr31
    refine q_iload_n hJ dX11_rule_12 (q := 13) rfl rfl ?_
    refine q_iconst hJ (v := 0) dX11_rule_13 (q := 14) rfl (by decide) ?_
    refine q_bipush hJ (v := 11) dX11_rule_14 (q := 16) rfl (by decide) ?_
    refine q_callS hJ dX11_rule_16 (q := 19) rfl (M_in w 0 11 I R) imX11_in ln_X11_25 rfl rfl rfl (Nat.le_of_ble_eq_true rfl) (by decide) (by decide) rfl rfl (fun rv gv Iv Rv hv => ?_)
    obtain ⟨rfl, rfl, rfl, rfl⟩ := hv
    refine q_if_eq hJ (tgt := 37) dX11_rule_19 (q := 22) rfl (by decide) (fun c2 => ?_) (fun c2 => ?_)
    · refine q_sipush hJ (v := (-1002)) dX11_rule_37 (q := 40) rfl (by decide) ?_
      refine q_iret hM dX11_rule_40 rfl rfl ?_
      first
        | exact ⟨congrArg (fun y => some (Value.int y)) (show aU A r q = ruleF A (nI r) (nI q) by rw [ruleF, okR_yes hr0, ecl]; exact (tell_n (by omega) (okr r hr).2.2).symm), rfl, rfl, rfl⟩
        | exact ⟨congrArg (fun y => some (Value.int y)) (show (-1002 : Int32) = ruleF A (nI r) w by rw [ruleF, okR_yes hr0]; exact (tell_bad c2).symm), rfl, rfl, rfl⟩
    · obtain ⟨q, hq, rfl⟩ := in_n (n := 11) (by decide) c2
      refine q_aload_n hJ dX11_rule_22 (q := 23) rfl rfl (by first | rfl | exact isR_rr _) ?_
      refine q_getR hJ dX11_rule_23 (q := 26) rfl fl_X11_7 rfl (by first | exact ka317 | exact ka318 | exact ka319 | exact ka320 | exact ka321 | exact ka322) (by assumption) rfl ?_
      refine q_iconst hJ (v := 0) dX11_rule_26 (q := 27) rfl (by decide) ?_
      refine q_iload_n hJ dX11_rule_27 (q := 28) rfl rfl ?_
      refine q_callS hJ dX11_rule_28 (q := 31) rfl (M_ruleAt 0 r I R) imX11_ruleAt ln_X11_40 rfl rfl rfl (Nat.le_of_ble_eq_true rfl) (by decide) (by decide) rfl rfl (fun rv gv Iv Rv hv => ?_)
      obtain ⟨rfl, rfl, rfl, rfl⟩ := hv
      refine q_iload_n hJ dX11_rule_31 (q := 32) rfl rfl ?_
      refine q_iadd hJ dX11_rule_32 (q := 33) rfl ?_
      refine q_iald hJ dX11_rule_33 (q := 34) rfl (by first | exact ka317 | exact ka318 | exact ka319 | exact ka320 | exact ka321 | exact ka322) (ixE (j := 0 + 82 + 12 * r + q) (by ((try simp only [nIl_add, nI_mul, nIl_0, nIl_1, nIl_2, nIl_3, nIl_4, nIl_5, nIl_6, nIl_7, nIl_8, nIl_9, nIl_10, nIl_11, nIl_12, nIl_20, nIl_60, nIl_72, nIl_80, nIl_81, nIl_82, nIl_99, nIl_100, nIl_226, nIl_227, nIl_228, nIl_229, nIl_230, nIl_231, nIl_232, nIl_233, nIl_413, nIl_1239, nIl_10000]) <;> first | done | rfl | exact congrArg nI (by omega))) (by omega) (by decide)) (hU.2.2 r hr q (by omega)) ?_
      refine q_goto hJ (tgt := 40) dX11_rule_34 (by decide) ?_
      refine q_iret hM dX11_rule_40 rfl rfl ?_
      first
        | exact ⟨congrArg (fun y => some (Value.int y)) (show aU A r q = ruleF A (nI r) (nI q) by rw [ruleF, okR_yes hr0, ecl]; exact (tell_n (by omega) (okr r hr).2.2).symm), rfl, rfl, rfl⟩
        | exact ⟨congrArg (fun y => some (Value.int y)) (show (-1002 : Int32) = ruleF A (nI r) w by rw [ruleF, okR_yes hr0]; exact (tell_bad c2).symm), rfl, rfl, rfl⟩
  · refine q_sipush hJ (v := (-1001)) dX11_rule_8 (q := 11) rfl (by decide) ?_
    refine q_iret hM dX11_rule_11 rfl rfl ?_
    have hr0 : x < 0 ∨ nI (aM A) ≤ x := Decidable.byContradiction fun z => absurd ((if_neg z).symm.trans cR) (by decide)
    exact ⟨by rw [ruleF, okR_not hr0], rfl, rfl, rfl⟩

set_option maxRecDepth 100000 in
set_option maxHeartbeats 400000 in
theorem M_order (e m p : Int32) (A : AS) (hs : Nat → AS) (h : Nat) (sn : AS) (kp : Bool) (tx : Nat → Int32) (tn : Nat) (I : MI) (R : MR) (hFR : FR R) (H : MOD I A hs h sn kp tx tn) : Sp 3 0 0 mX11_order [.ref 317, .int e, .int m, .int p] g0 I R (Mv (ordF A e m p) I R) := by
  have hm0 := hFR.2.2.2.2.2.1
  have hm1 := hFR.2.2.2.2.2.2.1
  have hm3 := hFR.2.2.2.2.2.2.2.1
  have hm5 := hFR.2.2.2.2.2.2.2.2.1
  have hm7 := hFR.2.2.2.2.2.2.2.2.2
  have hR := H.1.1
  have ok := H.2.1.1
  have hU := H.1.2.1
  have hm12 := hU.2.1
  have hS := H.1.2.2.1
  have hL := H.1.2.2.2
  have okr := H.2.1.2.1
  refine Sp.on (by decide +kernel) rfl rfl (fun J hM => ?_)
  have hJ := hM.ok
  refine q_iload_n hJ dX11_order_0 (q := 1) rfl rfl ?_
  refine q_iconst hJ (v := 0) dX11_order_1 (q := 2) rfl (by decide) ?_
  refine q_iconst hJ (v := 2) dX11_order_2 (q := 3) rfl (by decide) ?_
  refine q_callS hJ dX11_order_3 (q := 6) rfl (M_in e 0 2 I R) imX11_in ln_X11_25 rfl rfl rfl (Nat.le_of_ble_eq_true rfl) (by decide) (by decide) rfl rfl (fun rv gv Iv Rv hv => ?_)
  obtain ⟨rfl, rfl, rfl, rfl⟩ := hv
  refine q_if_eq hJ (tgt := 26) dX11_order_6 (q := 9) rfl (by decide) (fun c1 => ?_) (fun c1 => ?_)
  · refine q_iconst hJ (v := 0) dX11_order_26 (q := 27) rfl (by decide) ?_
    refine q_istore hJ dX11_order_27 (q := 29) rfl (by decide) ?_
    refine q_iload hJ dX11_order_29 (q := 31) rfl rfl ?_
    refine q_if_eq hJ (tgt := 45) dX11_order_31 (q := 34) rfl (by decide) (fun c4 => ?_) (fun c4 => ?_)
    · refine q_sipush hJ (v := (-1002)) dX11_order_45 (q := 48) rfl (by decide) ?_
      refine q_iret hM dX11_order_48 rfl rfl ?_
      first
        | exact absurd c4 (by decide)
        | exact absurd rfl c4
        | exact ⟨congrArg (fun y => some (Value.int y)) (show _ = ordF A e m p by unfold ordF; exact (if_pos c1).symm), rfl, rfl, rfl⟩
        | exact ⟨congrArg (fun y => some (Value.int y)) (show _ = ordF A e m p by unfold ordF; exact ((if_neg c1).trans (if_pos c2)).symm), rfl, rfl, rfl⟩
        | exact ⟨congrArg (fun y => some (Value.int y)) (show _ = ordF A e m p by unfold ordF; exact ((if_neg c1).trans ((if_neg c2).trans (if_pos c3))).symm), rfl, rfl, rfl⟩
        | exact ⟨congrArg (fun y => some (Value.int y)) (show _ = ordF A e m p by unfold ordF; exact ((if_neg c1).trans ((if_neg c2).trans (if_neg c3))).symm), rfl, rfl, rfl⟩
    · refine q_aload_n hJ dX11_order_34 (q := 35) rfl rfl (by first | rfl | exact isR_rr _) ?_
      refine q_iconst hJ (v := 0) dX11_order_35 (q := 36) rfl (by decide) ?_
      refine q_iload_n hJ dX11_order_36 (q := 37) rfl rfl ?_
      refine q_iload_n hJ dX11_order_37 (q := 38) rfl rfl ?_
      refine q_iload_n hJ dX11_order_38 (q := 39) rfl rfl ?_
      refine q_callV hJ dX11_order_39 (q := 42) rfl (M_orderAt 0 (aM A) (aU A) e m p I R hFR (by decide) hU (fun q hq => (okr q hq).1.2.2.1)) imX11_orderAt ln_X11_104 (by first | exact ka317 | exact ka318 | exact ka319 | exact ka320 | exact ka321 | exact ka322) (by decide) rfl rfl rfl rfl (Nat.le_of_ble_eq_true rfl) (by decide) (by decide) rfl rfl (fun rv gv Iv Rv hv => ?_)
      obtain ⟨rfl, rfl, rfl, rfl⟩ := hv
      refine q_goto hJ (tgt := 48) dX11_order_42 (by decide) ?_
      refine q_iret hM dX11_order_48 rfl rfl ?_
      first
        | exact absurd c4 (by decide)
        | exact absurd rfl c4
        | exact ⟨congrArg (fun y => some (Value.int y)) (show _ = ordF A e m p by unfold ordF; exact (if_pos c1).symm), rfl, rfl, rfl⟩
        | exact ⟨congrArg (fun y => some (Value.int y)) (show _ = ordF A e m p by unfold ordF; exact ((if_neg c1).trans (if_pos c2)).symm), rfl, rfl, rfl⟩
        | exact ⟨congrArg (fun y => some (Value.int y)) (show _ = ordF A e m p by unfold ordF; exact ((if_neg c1).trans ((if_neg c2).trans (if_pos c3))).symm), rfl, rfl, rfl⟩
        | exact ⟨congrArg (fun y => some (Value.int y)) (show _ = ordF A e m p by unfold ordF; exact ((if_neg c1).trans ((if_neg c2).trans (if_neg c3))).symm), rfl, rfl, rfl⟩
  · refine q_iload_n hJ dX11_order_9 (q := 10) rfl rfl ?_
    refine q_iconst hJ (v := 0) dX11_order_10 (q := 11) rfl (by decide) ?_
    refine q_iconst hJ (v := 1) dX11_order_11 (q := 12) rfl (by decide) ?_
    refine q_callS hJ dX11_order_12 (q := 15) rfl (M_in m 0 1 I R) imX11_in ln_X11_25 rfl rfl rfl (Nat.le_of_ble_eq_true rfl) (by decide) (by decide) rfl rfl (fun rv gv Iv Rv hv => ?_)
    obtain ⟨rfl, rfl, rfl, rfl⟩ := hv
    refine q_if_eq hJ (tgt := 26) dX11_order_15 (q := 18) rfl (by decide) (fun c2 => ?_) (fun c2 => ?_)
    · refine q_iconst hJ (v := 0) dX11_order_26 (q := 27) rfl (by decide) ?_
      refine q_istore hJ dX11_order_27 (q := 29) rfl (by decide) ?_
      refine q_iload hJ dX11_order_29 (q := 31) rfl rfl ?_
      refine q_if_eq hJ (tgt := 45) dX11_order_31 (q := 34) rfl (by decide) (fun c4 => ?_) (fun c4 => ?_)
      · refine q_sipush hJ (v := (-1002)) dX11_order_45 (q := 48) rfl (by decide) ?_
        refine q_iret hM dX11_order_48 rfl rfl ?_
        first
          | exact absurd c4 (by decide)
          | exact absurd rfl c4
          | exact ⟨congrArg (fun y => some (Value.int y)) (show _ = ordF A e m p by unfold ordF; exact (if_pos c1).symm), rfl, rfl, rfl⟩
          | exact ⟨congrArg (fun y => some (Value.int y)) (show _ = ordF A e m p by unfold ordF; exact ((if_neg c1).trans (if_pos c2)).symm), rfl, rfl, rfl⟩
          | exact ⟨congrArg (fun y => some (Value.int y)) (show _ = ordF A e m p by unfold ordF; exact ((if_neg c1).trans ((if_neg c2).trans (if_pos c3))).symm), rfl, rfl, rfl⟩
          | exact ⟨congrArg (fun y => some (Value.int y)) (show _ = ordF A e m p by unfold ordF; exact ((if_neg c1).trans ((if_neg c2).trans (if_neg c3))).symm), rfl, rfl, rfl⟩
      · refine q_aload_n hJ dX11_order_34 (q := 35) rfl rfl (by first | rfl | exact isR_rr _) ?_
        refine q_iconst hJ (v := 0) dX11_order_35 (q := 36) rfl (by decide) ?_
        refine q_iload_n hJ dX11_order_36 (q := 37) rfl rfl ?_
        refine q_iload_n hJ dX11_order_37 (q := 38) rfl rfl ?_
        refine q_iload_n hJ dX11_order_38 (q := 39) rfl rfl ?_
        refine q_callV hJ dX11_order_39 (q := 42) rfl (M_orderAt 0 (aM A) (aU A) e m p I R hFR (by decide) hU (fun q hq => (okr q hq).1.2.2.1)) imX11_orderAt ln_X11_104 (by first | exact ka317 | exact ka318 | exact ka319 | exact ka320 | exact ka321 | exact ka322) (by decide) rfl rfl rfl rfl (Nat.le_of_ble_eq_true rfl) (by decide) (by decide) rfl rfl (fun rv gv Iv Rv hv => ?_)
        obtain ⟨rfl, rfl, rfl, rfl⟩ := hv
        refine q_goto hJ (tgt := 48) dX11_order_42 (by decide) ?_
        refine q_iret hM dX11_order_48 rfl rfl ?_
        first
          | exact absurd c4 (by decide)
          | exact absurd rfl c4
          | exact ⟨congrArg (fun y => some (Value.int y)) (show _ = ordF A e m p by unfold ordF; exact (if_pos c1).symm), rfl, rfl, rfl⟩
          | exact ⟨congrArg (fun y => some (Value.int y)) (show _ = ordF A e m p by unfold ordF; exact ((if_neg c1).trans (if_pos c2)).symm), rfl, rfl, rfl⟩
          | exact ⟨congrArg (fun y => some (Value.int y)) (show _ = ordF A e m p by unfold ordF; exact ((if_neg c1).trans ((if_neg c2).trans (if_pos c3))).symm), rfl, rfl, rfl⟩
          | exact ⟨congrArg (fun y => some (Value.int y)) (show _ = ordF A e m p by unfold ordF; exact ((if_neg c1).trans ((if_neg c2).trans (if_neg c3))).symm), rfl, rfl, rfl⟩
    · refine q_iload_n hJ dX11_order_18 (q := 19) rfl rfl ?_
      refine q_if_lt hJ (tgt := 26) dX11_order_19 (q := 22) rfl (by decide) (fun c3 => ?_) (fun c3 => ?_)
      · refine q_iconst hJ (v := 0) dX11_order_26 (q := 27) rfl (by decide) ?_
        refine q_istore hJ dX11_order_27 (q := 29) rfl (by decide) ?_
        refine q_iload hJ dX11_order_29 (q := 31) rfl rfl ?_
        refine q_if_eq hJ (tgt := 45) dX11_order_31 (q := 34) rfl (by decide) (fun c4 => ?_) (fun c4 => ?_)
        · refine q_sipush hJ (v := (-1002)) dX11_order_45 (q := 48) rfl (by decide) ?_
          refine q_iret hM dX11_order_48 rfl rfl ?_
          first
            | exact absurd c4 (by decide)
            | exact absurd rfl c4
            | exact ⟨congrArg (fun y => some (Value.int y)) (show _ = ordF A e m p by unfold ordF; exact (if_pos c1).symm), rfl, rfl, rfl⟩
            | exact ⟨congrArg (fun y => some (Value.int y)) (show _ = ordF A e m p by unfold ordF; exact ((if_neg c1).trans (if_pos c2)).symm), rfl, rfl, rfl⟩
            | exact ⟨congrArg (fun y => some (Value.int y)) (show _ = ordF A e m p by unfold ordF; exact ((if_neg c1).trans ((if_neg c2).trans (if_pos c3))).symm), rfl, rfl, rfl⟩
            | exact ⟨congrArg (fun y => some (Value.int y)) (show _ = ordF A e m p by unfold ordF; exact ((if_neg c1).trans ((if_neg c2).trans (if_neg c3))).symm), rfl, rfl, rfl⟩
        · refine q_aload_n hJ dX11_order_34 (q := 35) rfl rfl (by first | rfl | exact isR_rr _) ?_
          refine q_iconst hJ (v := 0) dX11_order_35 (q := 36) rfl (by decide) ?_
          refine q_iload_n hJ dX11_order_36 (q := 37) rfl rfl ?_
          refine q_iload_n hJ dX11_order_37 (q := 38) rfl rfl ?_
          refine q_iload_n hJ dX11_order_38 (q := 39) rfl rfl ?_
          refine q_callV hJ dX11_order_39 (q := 42) rfl (M_orderAt 0 (aM A) (aU A) e m p I R hFR (by decide) hU (fun q hq => (okr q hq).1.2.2.1)) imX11_orderAt ln_X11_104 (by first | exact ka317 | exact ka318 | exact ka319 | exact ka320 | exact ka321 | exact ka322) (by decide) rfl rfl rfl rfl (Nat.le_of_ble_eq_true rfl) (by decide) (by decide) rfl rfl (fun rv gv Iv Rv hv => ?_)
          obtain ⟨rfl, rfl, rfl, rfl⟩ := hv
          refine q_goto hJ (tgt := 48) dX11_order_42 (by decide) ?_
          refine q_iret hM dX11_order_48 rfl rfl ?_
          first
            | exact absurd c4 (by decide)
            | exact absurd rfl c4
            | exact ⟨congrArg (fun y => some (Value.int y)) (show _ = ordF A e m p by unfold ordF; exact (if_pos c1).symm), rfl, rfl, rfl⟩
            | exact ⟨congrArg (fun y => some (Value.int y)) (show _ = ordF A e m p by unfold ordF; exact ((if_neg c1).trans (if_pos c2)).symm), rfl, rfl, rfl⟩
            | exact ⟨congrArg (fun y => some (Value.int y)) (show _ = ordF A e m p by unfold ordF; exact ((if_neg c1).trans ((if_neg c2).trans (if_pos c3))).symm), rfl, rfl, rfl⟩
            | exact ⟨congrArg (fun y => some (Value.int y)) (show _ = ordF A e m p by unfold ordF; exact ((if_neg c1).trans ((if_neg c2).trans (if_neg c3))).symm), rfl, rfl, rfl⟩
      · refine q_iconst hJ (v := 1) dX11_order_22 (q := 23) rfl (by decide) ?_
        refine q_goto hJ (tgt := 27) dX11_order_23 (by decide) ?_
        refine q_istore hJ dX11_order_27 (q := 29) rfl (by decide) ?_
        refine q_iload hJ dX11_order_29 (q := 31) rfl rfl ?_
        refine q_if_eq hJ (tgt := 45) dX11_order_31 (q := 34) rfl (by decide) (fun c4 => ?_) (fun c4 => ?_)
        · refine q_sipush hJ (v := (-1002)) dX11_order_45 (q := 48) rfl (by decide) ?_
          refine q_iret hM dX11_order_48 rfl rfl ?_
          first
            | exact absurd c4 (by decide)
            | exact absurd rfl c4
            | exact ⟨congrArg (fun y => some (Value.int y)) (show _ = ordF A e m p by unfold ordF; exact (if_pos c1).symm), rfl, rfl, rfl⟩
            | exact ⟨congrArg (fun y => some (Value.int y)) (show _ = ordF A e m p by unfold ordF; exact ((if_neg c1).trans (if_pos c2)).symm), rfl, rfl, rfl⟩
            | exact ⟨congrArg (fun y => some (Value.int y)) (show _ = ordF A e m p by unfold ordF; exact ((if_neg c1).trans ((if_neg c2).trans (if_pos c3))).symm), rfl, rfl, rfl⟩
            | exact ⟨congrArg (fun y => some (Value.int y)) (show _ = ordF A e m p by unfold ordF; exact ((if_neg c1).trans ((if_neg c2).trans (if_neg c3))).symm), rfl, rfl, rfl⟩
        · refine q_aload_n hJ dX11_order_34 (q := 35) rfl rfl (by first | rfl | exact isR_rr _) ?_
          refine q_iconst hJ (v := 0) dX11_order_35 (q := 36) rfl (by decide) ?_
          refine q_iload_n hJ dX11_order_36 (q := 37) rfl rfl ?_
          refine q_iload_n hJ dX11_order_37 (q := 38) rfl rfl ?_
          refine q_iload_n hJ dX11_order_38 (q := 39) rfl rfl ?_
          refine q_callV hJ dX11_order_39 (q := 42) rfl (M_orderAt 0 (aM A) (aU A) e m p I R hFR (by decide) hU (fun q hq => (okr q hq).1.2.2.1)) imX11_orderAt ln_X11_104 (by first | exact ka317 | exact ka318 | exact ka319 | exact ka320 | exact ka321 | exact ka322) (by decide) rfl rfl rfl rfl (Nat.le_of_ble_eq_true rfl) (by decide) (by decide) rfl rfl (fun rv gv Iv Rv hv => ?_)
          obtain ⟨rfl, rfl, rfl, rfl⟩ := hv
          refine q_goto hJ (tgt := 48) dX11_order_42 (by decide) ?_
          refine q_iret hM dX11_order_48 rfl rfl ?_
          first
            | exact absurd c4 (by decide)
            | exact absurd rfl c4
            | exact ⟨congrArg (fun y => some (Value.int y)) (show _ = ordF A e m p by unfold ordF; exact (if_pos c1).symm), rfl, rfl, rfl⟩
            | exact ⟨congrArg (fun y => some (Value.int y)) (show _ = ordF A e m p by unfold ordF; exact ((if_neg c1).trans (if_pos c2)).symm), rfl, rfl, rfl⟩
            | exact ⟨congrArg (fun y => some (Value.int y)) (show _ = ordF A e m p by unfold ordF; exact ((if_neg c1).trans ((if_neg c2).trans (if_pos c3))).symm), rfl, rfl, rfl⟩
            | exact ⟨congrArg (fun y => some (Value.int y)) (show _ = ordF A e m p by unfold ordF; exact ((if_neg c1).trans ((if_neg c2).trans (if_neg c3))).symm), rfl, rfl, rfl⟩

set_option maxRecDepth 100000 in
set_option maxHeartbeats 400000 in
theorem M_firing (x w : Int32) (A : AS) (hs : Nat → AS) (h : Nat) (sn : AS) (kp : Bool) (tx : Nat → Int32) (tn : Nat) (I : MI) (R : MR) (hFR : FR R) (H : MOD I A hs h sn kp tx tn) : Sp 1 0 0 mX11_firing [.ref 317, .int x, .int w] g0 I R (Mv (firF A x w) I R) := by
  have hm0 := hFR.2.2.2.2.2.1
  have hm1 := hFR.2.2.2.2.2.2.1
  have hm3 := hFR.2.2.2.2.2.2.2.1
  have hm5 := hFR.2.2.2.2.2.2.2.2.1
  have hm7 := hFR.2.2.2.2.2.2.2.2.2
  have hR := H.1.1
  have ok := H.2.1.1
  have hU := H.1.2.1
  have hm12 := hU.2.1
  have hS := H.1.2.2.1
  have hL := H.1.2.2.2
  have okr := H.2.1.2.1
  refine Sp.on (by decide +kernel) rfl rfl (fun J hM => ?_)
  have hJ := hM.ok
  refine q_iload_n hJ dX11_firing_0 (q := 1) rfl rfl ?_
  refine q_if_lt hJ (tgt := 13) dX11_firing_1 (q := 4) rfl (by decide) (fun c1 => ?_) (fun c1 => ?_)
  · refine q_sipush hJ (v := (-1002)) dX11_firing_13 (q := 16) rfl (by decide) ?_
    refine q_iret hM dX11_firing_16 rfl rfl ?_
    first
      | exact ⟨congrArg (fun y => some (Value.int y)) (show _ = firF A x w by unfold firF; exact (if_pos c1).symm), rfl, rfl, rfl⟩
      | exact ⟨congrArg (fun y => some (Value.int y)) (show _ = firF A x w by unfold firF; by_cases z : x < 0; exact (if_pos z).symm; exact ((if_neg z).trans (if_pos c2)).symm), rfl, rfl, rfl⟩
  · refine q_iload_n hJ dX11_firing_4 (q := 5) rfl rfl ?_
    refine q_iconst hJ (v := 0) dX11_firing_5 (q := 6) rfl (by decide) ?_
    refine q_iconst hJ (v := 2) dX11_firing_6 (q := 7) rfl (by decide) ?_
    refine q_callS hJ dX11_firing_7 (q := 10) rfl (M_in w 0 2 I R) imX11_in ln_X11_25 rfl rfl rfl (Nat.le_of_ble_eq_true rfl) (by decide) (by decide) rfl rfl (fun rv gv Iv Rv hv => ?_)
    obtain ⟨rfl, rfl, rfl, rfl⟩ := hv
    refine q_if_ne hJ (tgt := 17) dX11_firing_10 (q := 13) rfl (by decide) (fun c2 => ?_) (fun c2 => ?_)
    · refine q_iload_n hJ dX11_firing_17 (q := 18) rfl rfl ?_
      refine q_aload_n hJ dX11_firing_18 (q := 19) rfl rfl (by first | rfl | exact isR_rr _) ?_
      refine q_getR hJ dX11_firing_19 (q := 22) rfl fl_X11_7 rfl (by first | exact ka317 | exact ka318 | exact ka319 | exact ka320 | exact ka321 | exact ka322) (by assumption) rfl ?_
      refine q_sipush hJ (v := 232) dX11_firing_22 (q := 25) rfl (by decide) ?_
      refine q_iald hJ dX11_firing_25 (q := 26) rfl (by first | exact ka317 | exact ka318 | exact ka319 | exact ka320 | exact ka321 | exact ka322) (ixE (j := 0 + 232) (by ((try simp only [nIl_add, nI_mul, nIl_0, nIl_1, nIl_2, nIl_3, nIl_4, nIl_5, nIl_6, nIl_7, nIl_8, nIl_9, nIl_10, nIl_11, nIl_12, nIl_20, nIl_60, nIl_72, nIl_80, nIl_81, nIl_82, nIl_99, nIl_100, nIl_226, nIl_227, nIl_228, nIl_229, nIl_230, nIl_231, nIl_232, nIl_233, nIl_413, nIl_1239, nIl_10000]) <;> first | done | rfl | exact congrArg nI (by omega))) (by decide) (by decide)) hL.1 ?_
      refine q_icmp_ge hJ (tgt := 46) dX11_firing_26 (q := 29) rfl (by decide) (fun c3 => ?_) (fun c3 => ?_)
      · refine q_sipush hJ (v := (-1006)) dX11_firing_46 (q := 49) rfl (by decide) ?_
        refine q_iret hM dX11_firing_49 rfl rfl ?_
        first
          | exact ⟨congrArg (fun y => some (Value.int y)) (show _ = firF A x w by unfold firF; exact ((if_neg c1).trans ((if_neg c2).trans (if_pos c3))).symm), rfl, rfl, rfl⟩
          | exact ⟨congrArg (fun y => some (Value.int y)) (show aC A j q = firF A (nI j) (nI q) by unfold firF; rw [if_neg c1, if_neg c2, if_neg c3, nI_clamp hj31]; rcases (show q = 0 ∨ q = 1 ∨ q = 2 by omega) with rfl | rfl | rfl <;> rfl), rfl, rfl, rfl⟩
      · obtain ⟨q, hq, rfl⟩ := n_02 (inR_ne c2)
        obtain ⟨j, hj31, rfl⟩ := nI_of c1
        have hj : j < aR A := (nI_ltI hj31 (by have := hL.2.1; omega)).mp (Int32.not_le.mp c3)
        have hr60 := hL.2.1
        refine q_aload_n hJ dX11_firing_29 (q := 30) rfl rfl (by first | rfl | exact isR_rr _) ?_
        refine q_getR hJ dX11_firing_30 (q := 33) rfl fl_X11_7 rfl (by first | exact ka317 | exact ka318 | exact ka319 | exact ka320 | exact ka321 | exact ka322) (by assumption) rfl ?_
        refine q_sipush hJ (v := 233) dX11_firing_33 (q := 36) rfl (by decide) ?_
        refine q_iconst hJ (v := 3) dX11_firing_36 (q := 37) rfl (by decide) ?_
        refine q_iload_n hJ dX11_firing_37 (q := 38) rfl rfl ?_
        refine q_imul hJ dX11_firing_38 (q := 39) rfl ?_
        refine q_iadd hJ dX11_firing_39 (q := 40) rfl ?_
        refine q_iload_n hJ dX11_firing_40 (q := 41) rfl rfl ?_
        refine q_iadd hJ dX11_firing_41 (q := 42) rfl ?_
        refine q_iald hJ dX11_firing_42 (q := 43) rfl (by first | exact ka317 | exact ka318 | exact ka319 | exact ka320 | exact ka321 | exact ka322) (ixE (j := 0 + 233 + 3 * j + q) (by ((try simp only [nIl_add, nI_mul, nIl_0, nIl_1, nIl_2, nIl_3, nIl_4, nIl_5, nIl_6, nIl_7, nIl_8, nIl_9, nIl_10, nIl_11, nIl_12, nIl_20, nIl_60, nIl_72, nIl_80, nIl_81, nIl_82, nIl_99, nIl_100, nIl_226, nIl_227, nIl_228, nIl_229, nIl_230, nIl_231, nIl_232, nIl_233, nIl_413, nIl_1239, nIl_10000]) <;> first | done | rfl | exact congrArg nI (by omega))) (by omega) (by decide)) (hL.2.2 j hj q hq) ?_
        refine q_goto hJ (tgt := 49) dX11_firing_43 (by decide) ?_
        refine q_iret hM dX11_firing_49 rfl rfl ?_
        first
          | exact ⟨congrArg (fun y => some (Value.int y)) (show _ = firF A x w by unfold firF; exact ((if_neg c1).trans ((if_neg c2).trans (if_pos c3))).symm), rfl, rfl, rfl⟩
          | exact ⟨congrArg (fun y => some (Value.int y)) (show aC A j q = firF A (nI j) (nI q) by unfold firF; rw [if_neg c1, if_neg c2, if_neg c3, nI_clamp hj31]; rcases (show q = 0 ∨ q = 1 ∨ q = 2 by omega) with rfl | rfl | rfl <;> rfl), rfl, rfl, rfl⟩
    · refine q_sipush hJ (v := (-1002)) dX11_firing_13 (q := 16) rfl (by decide) ?_
      refine q_iret hM dX11_firing_16 rfl rfl ?_
      first
        | exact ⟨congrArg (fun y => some (Value.int y)) (show _ = firF A x w by unfold firF; exact (if_pos c1).symm), rfl, rfl, rfl⟩
        | exact ⟨congrArg (fun y => some (Value.int y)) (show _ = firF A x w by unfold firF; by_cases z : x < 0; exact (if_pos z).symm; exact ((if_neg z).trans (if_pos c2)).symm), rfl, rfl, rfl⟩

set_option maxRecDepth 100000 in
set_option maxHeartbeats 400000 in
theorem M_rulesOn (U : Nat → Nat → Int32) (m : Nat) (I : MI) (R : MR) (hFR : FR R) (hU : RuW (I 318) 0 U m) (h10 : ∀ r, r < m → U r 10 = 0 ∨ U r 10 = 1) : Sp 1 0 0 mX11_rulesOn [.ref 317] g0 I R (Mv (nI (coF (fun j => U j 10) m)) I R) := by
  have hm0 := hFR.2.2.2.2.2.1
  have hm1 := hFR.2.2.2.2.2.2.1
  have hm3 := hFR.2.2.2.2.2.2.2.1
  have hm5 := hFR.2.2.2.2.2.2.2.2.1
  have hm7 := hFR.2.2.2.2.2.2.2.2.2
  have hm12 := hU.2.1
  refine Sp.on (by decide +kernel) rfl rfl (fun J hM => ?_)
  have hJ := hM.ok
  have loop : ∀ (k j : Nat), k + j = m → J 0 0 4 [some (.ref 317), some (.int (nI (coF (fun j => U j 10) j))), some (.int (nI j))] [] g0 I R := by
    intro k
    induction k with
    | zero =>
      intro j hm
      refine q_iload_n hJ dX11_rulesOn_4 (q := 5) rfl rfl ?_
      refine q_aload_n hJ dX11_rulesOn_5 (q := 6) rfl rfl (by first | rfl | exact isR_rr _) ?_
      refine q_getR hJ dX11_rulesOn_6 (q := 9) rfl fl_X11_7 rfl (by first | exact ka317 | exact ka318 | exact ka319 | exact ka320 | exact ka321 | exact ka322) (by assumption) rfl ?_
      refine q_bipush hJ (v := 81) dX11_rulesOn_9 (q := 11) rfl (by decide) ?_
      refine q_iald hJ dX11_rulesOn_11 (q := 12) rfl (by first | exact ka317 | exact ka318 | exact ka319 | exact ka320 | exact ka321 | exact ka322) (ixE (j := 0 + 81) (by ((try simp only [nIl_add, nI_mul, nIl_0, nIl_1, nIl_2, nIl_3, nIl_4, nIl_5, nIl_6, nIl_7, nIl_8, nIl_9, nIl_10, nIl_11, nIl_12, nIl_20, nIl_60, nIl_72, nIl_80, nIl_81, nIl_82, nIl_99, nIl_100, nIl_226, nIl_227, nIl_228, nIl_229, nIl_230, nIl_231, nIl_232, nIl_233, nIl_413, nIl_1239, nIl_10000]) <;> first | done | rfl | exact congrArg nI (by omega))) (by decide) (by decide)) hU.1 ?_
      refine q_icmp_ge hJ (tgt := 37) dX11_rulesOn_12 (q := 15) rfl (by decide) (fun _ => ?_) (fun c5 => absurd ((nI_leI (a := m) (b := j) (by omega) (by omega)).mpr (by omega)) c5)
      refine q_iload_n hJ dX11_rulesOn_37 (q := 38) rfl rfl ?_
      refine q_iret hM dX11_rulesOn_38 rfl rfl ?_
      have ej : j = m := by omega
      exact ⟨by rw [ej], rfl, rfl, rfl⟩
    | succ k ih =>
      intro j hm
      refine q_iload_n hJ dX11_rulesOn_4 (q := 5) rfl rfl ?_
      refine q_aload_n hJ dX11_rulesOn_5 (q := 6) rfl rfl (by first | rfl | exact isR_rr _) ?_
      refine q_getR hJ dX11_rulesOn_6 (q := 9) rfl fl_X11_7 rfl (by first | exact ka317 | exact ka318 | exact ka319 | exact ka320 | exact ka321 | exact ka322) (by assumption) rfl ?_
      refine q_bipush hJ (v := 81) dX11_rulesOn_9 (q := 11) rfl (by decide) ?_
      refine q_iald hJ dX11_rulesOn_11 (q := 12) rfl (by first | exact ka317 | exact ka318 | exact ka319 | exact ka320 | exact ka321 | exact ka322) (ixE (j := 0 + 81) (by ((try simp only [nIl_add, nI_mul, nIl_0, nIl_1, nIl_2, nIl_3, nIl_4, nIl_5, nIl_6, nIl_7, nIl_8, nIl_9, nIl_10, nIl_11, nIl_12, nIl_20, nIl_60, nIl_72, nIl_80, nIl_81, nIl_82, nIl_99, nIl_100, nIl_226, nIl_227, nIl_228, nIl_229, nIl_230, nIl_231, nIl_232, nIl_233, nIl_413, nIl_1239, nIl_10000]) <;> first | done | rfl | exact congrArg nI (by omega))) (by decide) (by decide)) hU.1 ?_
      refine q_icmp_ge hJ (tgt := 37) dX11_rulesOn_12 (q := 15) rfl (by decide) (fun c5 => absurd ((nI_leI (a := m) (b := j) (by omega) (by omega)).mp c5) (by omega)) (fun _ => ?_)
      refine q_iload_n hJ dX11_rulesOn_15 (q := 16) rfl rfl ?_
      refine q_aload_n hJ dX11_rulesOn_16 (q := 17) rfl rfl (by first | rfl | exact isR_rr _) ?_
      refine q_getR hJ dX11_rulesOn_17 (q := 20) rfl fl_X11_7 rfl (by first | exact ka317 | exact ka318 | exact ka319 | exact ka320 | exact ka321 | exact ka322) (by assumption) rfl ?_
      refine q_iconst hJ (v := 0) dX11_rulesOn_20 (q := 21) rfl (by decide) ?_
      refine q_iload_n hJ dX11_rulesOn_21 (q := 22) rfl rfl ?_
      refine q_callS hJ dX11_rulesOn_22 (q := 25) rfl (M_ruleAt 0 j I R) imX11_ruleAt ln_X11_40 rfl rfl rfl (Nat.le_of_ble_eq_true rfl) (by decide) (by decide) rfl rfl (fun rv gv Iv Rv hv => ?_)
      obtain ⟨rfl, rfl, rfl, rfl⟩ := hv
      refine q_bipush hJ (v := 10) dX11_rulesOn_25 (q := 27) rfl (by decide) ?_
      refine q_iadd hJ dX11_rulesOn_27 (q := 28) rfl ?_
      refine q_iald hJ dX11_rulesOn_28 (q := 29) rfl (by first | exact ka317 | exact ka318 | exact ka319 | exact ka320 | exact ka321 | exact ka322) (ixE (j := 0 + 82 + 12 * j + 10) (by ((try simp only [nIl_add, nI_mul, nIl_0, nIl_1, nIl_2, nIl_3, nIl_4, nIl_5, nIl_6, nIl_7, nIl_8, nIl_9, nIl_10, nIl_11, nIl_12, nIl_20, nIl_60, nIl_72, nIl_80, nIl_81, nIl_82, nIl_99, nIl_100, nIl_226, nIl_227, nIl_228, nIl_229, nIl_230, nIl_231, nIl_232, nIl_233, nIl_413, nIl_1239, nIl_10000]) <;> first | done | rfl | exact congrArg nI (by omega))) (by omega) (by decide)) (hU.2.2 j (by omega) 10 (by decide)) ?_
      refine q_iadd hJ dX11_rulesOn_29 (q := 30) rfl ?_
      refine q_istore_n hJ dX11_rulesOn_30 (q := 31) rfl (by decide) ?_
      refine q_iinc hJ dX11_rulesOn_31 (q := 34) rfl (by decide) rfl (nI_1 j) ?_
      refine q_goto hJ (tgt := 4) dX11_rulesOn_34 (by decide) ?_
      rw [show nI (coF (fun j => U j 10) j) + U j 10 = nI (coF (fun j => U j 10) (j + 1)) from by
        show _ = nI (coF (fun j => U j 10) j + (if U j 10 = 0 then 0 else 1))
        rcases h10 j (by omega) with e | e
        · rw [e]; exact Int32.add_zero _
        · rw [e]; exact nI_1 _]
      exact ih (j + 1) (by omega)
  refine q_iconst hJ (v := 0) dX11_rulesOn_0 (q := 1) rfl (by decide) ?_
  refine q_istore_n hJ dX11_rulesOn_1 (q := 2) rfl (by decide) ?_
  refine q_iconst hJ (v := 0) dX11_rulesOn_2 (q := 3) rfl (by decide) ?_
  refine q_istore_n hJ dX11_rulesOn_3 (q := 4) rfl (by decide) ?_
  exact loop m 0 (Nat.add_zero m)

set_option maxRecDepth 100000 in
set_option maxHeartbeats 400000 in
theorem M_total (w : Int32) (A : AS) (hs : Nat → AS) (h : Nat) (sn : AS) (kp : Bool) (tx : Nat → Int32) (tn : Nat) (I : MI) (R : MR) (hFR : FR R) (H : MOD I A hs h sn kp tx tn) : Sp 2 0 0 mX11_total [.ref 317, .int w] g0 I R (Mv (totF A h tn w) I R) := by
  have hm0 := hFR.2.2.2.2.2.1
  have hm1 := hFR.2.2.2.2.2.2.1
  have hm3 := hFR.2.2.2.2.2.2.2.1
  have hm5 := hFR.2.2.2.2.2.2.2.2.1
  have hm7 := hFR.2.2.2.2.2.2.2.2.2
  have hR := H.1.1
  have ok := H.2.1.1
  have hU := H.1.2.1
  have hm12 := hU.2.1
  have hS := H.1.2.2.1
  have hL := H.1.2.2.2
  have okr := H.2.1.2.1
  refine Sp.on (by decide +kernel) rfl rfl (fun J hM => ?_)
  have hJ := hM.ok
  refine q_iload_n hJ dX11_total_0 (q := 1) rfl rfl ?_
  by_cases k_0 : w = 0
  · refine q_tswIn hJ (off := 63) (tgt := 64) dX11_total_1 (by rw [k_0]; decide) (by rw [k_0]; decide) (by rw [k_0]; decide) (by decide) ?_
    refine q_aload_n hJ dX11_total_64 (q := 65) rfl rfl (by first | rfl | exact isR_rr _) ?_
    refine q_getR hJ dX11_total_65 (q := 68) rfl fl_X11_7 rfl (by first | exact ka317 | exact ka318 | exact ka319 | exact ka320 | exact ka321 | exact ka322) (by assumption) rfl ?_
    refine q_iconst hJ (v := 0) dX11_total_68 (q := 69) rfl (by decide) ?_
    refine q_iald hJ dX11_total_69 (q := 70) rfl (by first | exact ka317 | exact ka318 | exact ka319 | exact ka320 | exact ka321 | exact ka322) (ixE (j := 0 + 0) (by ((try simp only [nIl_add, nI_mul, nIl_0, nIl_1, nIl_2, nIl_3, nIl_4, nIl_5, nIl_6, nIl_7, nIl_8, nIl_9, nIl_10, nIl_11, nIl_12, nIl_20, nIl_60, nIl_72, nIl_80, nIl_81, nIl_82, nIl_99, nIl_100, nIl_226, nIl_227, nIl_228, nIl_229, nIl_230, nIl_231, nIl_232, nIl_233, nIl_413, nIl_1239, nIl_10000]) <;> first | done | rfl | exact congrArg nI (by omega))) (by decide) (by decide)) hR.1 ?_
    refine q_iret hM dX11_total_70 rfl rfl ?_
    exact ⟨by simp [totF, stTell, *], rfl, rfl, rfl⟩
  by_cases k_1 : w = 1
  · refine q_tswIn hJ (off := 70) (tgt := 71) dX11_total_1 (by rw [k_1]; decide) (by rw [k_1]; decide) (by rw [k_1]; decide) (by decide) ?_
    refine q_aload_n hJ dX11_total_71 (q := 72) rfl rfl (by first | rfl | exact isR_rr _) ?_
    refine q_getR hJ dX11_total_72 (q := 75) rfl fl_X11_7 rfl (by first | exact ka317 | exact ka318 | exact ka319 | exact ka320 | exact ka321 | exact ka322) (by assumption) rfl ?_
    refine q_bipush hJ (v := 81) dX11_total_75 (q := 77) rfl (by decide) ?_
    refine q_iald hJ dX11_total_77 (q := 78) rfl (by first | exact ka317 | exact ka318 | exact ka319 | exact ka320 | exact ka321 | exact ka322) (ixE (j := 0 + 81) (by ((try simp only [nIl_add, nI_mul, nIl_0, nIl_1, nIl_2, nIl_3, nIl_4, nIl_5, nIl_6, nIl_7, nIl_8, nIl_9, nIl_10, nIl_11, nIl_12, nIl_20, nIl_60, nIl_72, nIl_80, nIl_81, nIl_82, nIl_99, nIl_100, nIl_226, nIl_227, nIl_228, nIl_229, nIl_230, nIl_231, nIl_232, nIl_233, nIl_413, nIl_1239, nIl_10000]) <;> first | done | rfl | exact congrArg nI (by omega))) (by decide) (by decide)) hU.1 ?_
    refine q_iret hM dX11_total_78 rfl rfl ?_
    exact ⟨by simp [totF, stTell, *], rfl, rfl, rfl⟩
  by_cases k_2 : w = 2
  · refine q_tswIn hJ (off := 78) (tgt := 79) dX11_total_1 (by rw [k_2]; decide) (by rw [k_2]; decide) (by rw [k_2]; decide) (by decide) ?_
    refine q_aload_n hJ dX11_total_79 (q := 80) rfl rfl (by first | rfl | exact isR_rr _) ?_
    refine q_callV hJ dX11_total_80 (q := 83) rfl (M_rulesOn (aU A) (aM A) I R hFR hU (fun r hr => (okr r hr).2.2)) imX11_rulesOn ln_X11_158 (by first | exact ka317 | exact ka318 | exact ka319 | exact ka320 | exact ka321 | exact ka322) (by decide) rfl rfl rfl rfl (Nat.le_of_ble_eq_true rfl) (by decide) (by decide) rfl rfl (fun rv gv Iv Rv hv => ?_)
    obtain ⟨rfl, rfl, rfl, rfl⟩ := hv
    refine q_iret hM dX11_total_83 rfl rfl ?_
    exact ⟨by simp [totF, stTell, *], rfl, rfl, rfl⟩
  by_cases k_3 : w = 3
  · refine q_tswIn hJ (off := 83) (tgt := 84) dX11_total_1 (by rw [k_3]; decide) (by rw [k_3]; decide) (by rw [k_3]; decide) (by decide) ?_
    have hix : ix (226 + w - 3) (0 + 226 + 0) 826 := by rw [k_3]; exact ⟨by decide, by decide⟩
    have hvv : I 318 (0 + 226 + 0) = aS A 0 := hS 0 (by decide)
    refine q_aload_n hJ dX11_total_84 (q := 85) rfl rfl (by first | rfl | exact isR_rr _) ?_
    refine q_getR hJ dX11_total_85 (q := 88) rfl fl_X11_7 rfl (by first | exact ka317 | exact ka318 | exact ka319 | exact ka320 | exact ka321 | exact ka322) (by assumption) rfl ?_
    refine q_sipush hJ (v := 226) dX11_total_88 (q := 91) rfl (by decide) ?_
    refine q_iload_n hJ dX11_total_91 (q := 92) rfl rfl ?_
    refine q_iadd hJ dX11_total_92 (q := 93) rfl ?_
    refine q_iconst hJ (v := 3) dX11_total_93 (q := 94) rfl (by decide) ?_
    refine q_isub hJ dX11_total_94 (q := 95) rfl ?_
    refine q_iald hJ dX11_total_95 (q := 96) rfl (by first | exact ka317 | exact ka318 | exact ka319 | exact ka320 | exact ka321 | exact ka322) hix hvv ?_
    refine q_iret hM dX11_total_96 rfl rfl ?_
    exact ⟨by simp [totF, stTell, *], rfl, rfl, rfl⟩
  by_cases k_4 : w = 4
  · refine q_tswIn hJ (off := 83) (tgt := 84) dX11_total_1 (by rw [k_4]; decide) (by rw [k_4]; decide) (by rw [k_4]; decide) (by decide) ?_
    have hix : ix (226 + w - 3) (0 + 226 + 1) 826 := by rw [k_4]; exact ⟨by decide, by decide⟩
    have hvv : I 318 (0 + 226 + 1) = aS A 1 := hS 1 (by decide)
    refine q_aload_n hJ dX11_total_84 (q := 85) rfl rfl (by first | rfl | exact isR_rr _) ?_
    refine q_getR hJ dX11_total_85 (q := 88) rfl fl_X11_7 rfl (by first | exact ka317 | exact ka318 | exact ka319 | exact ka320 | exact ka321 | exact ka322) (by assumption) rfl ?_
    refine q_sipush hJ (v := 226) dX11_total_88 (q := 91) rfl (by decide) ?_
    refine q_iload_n hJ dX11_total_91 (q := 92) rfl rfl ?_
    refine q_iadd hJ dX11_total_92 (q := 93) rfl ?_
    refine q_iconst hJ (v := 3) dX11_total_93 (q := 94) rfl (by decide) ?_
    refine q_isub hJ dX11_total_94 (q := 95) rfl ?_
    refine q_iald hJ dX11_total_95 (q := 96) rfl (by first | exact ka317 | exact ka318 | exact ka319 | exact ka320 | exact ka321 | exact ka322) hix hvv ?_
    refine q_iret hM dX11_total_96 rfl rfl ?_
    exact ⟨by simp [totF, stTell, *], rfl, rfl, rfl⟩
  by_cases k_5 : w = 5
  · refine q_tswIn hJ (off := 96) (tgt := 97) dX11_total_1 (by rw [k_5]; decide) (by rw [k_5]; decide) (by rw [k_5]; decide) (by decide) ?_
    have hix : ix (228 + w - 5) (0 + 226 + 2) 826 := by rw [k_5]; exact ⟨by decide, by decide⟩
    have hvv : I 318 (0 + 226 + 2) = aS A 2 := hS 2 (by decide)
    refine q_aload_n hJ dX11_total_97 (q := 98) rfl rfl (by first | rfl | exact isR_rr _) ?_
    refine q_getR hJ dX11_total_98 (q := 101) rfl fl_X11_7 rfl (by first | exact ka317 | exact ka318 | exact ka319 | exact ka320 | exact ka321 | exact ka322) (by assumption) rfl ?_
    refine q_sipush hJ (v := 228) dX11_total_101 (q := 104) rfl (by decide) ?_
    refine q_iload_n hJ dX11_total_104 (q := 105) rfl rfl ?_
    refine q_iadd hJ dX11_total_105 (q := 106) rfl ?_
    refine q_iconst hJ (v := 5) dX11_total_106 (q := 107) rfl (by decide) ?_
    refine q_isub hJ dX11_total_107 (q := 108) rfl ?_
    refine q_iald hJ dX11_total_108 (q := 109) rfl (by first | exact ka317 | exact ka318 | exact ka319 | exact ka320 | exact ka321 | exact ka322) hix hvv ?_
    refine q_iret hM dX11_total_109 rfl rfl ?_
    exact ⟨by simp [totF, stTell, *], rfl, rfl, rfl⟩
  by_cases k_6 : w = 6
  · refine q_tswIn hJ (off := 96) (tgt := 97) dX11_total_1 (by rw [k_6]; decide) (by rw [k_6]; decide) (by rw [k_6]; decide) (by decide) ?_
    have hix : ix (228 + w - 5) (0 + 226 + 3) 826 := by rw [k_6]; exact ⟨by decide, by decide⟩
    have hvv : I 318 (0 + 226 + 3) = aS A 3 := hS 3 (by decide)
    refine q_aload_n hJ dX11_total_97 (q := 98) rfl rfl (by first | rfl | exact isR_rr _) ?_
    refine q_getR hJ dX11_total_98 (q := 101) rfl fl_X11_7 rfl (by first | exact ka317 | exact ka318 | exact ka319 | exact ka320 | exact ka321 | exact ka322) (by assumption) rfl ?_
    refine q_sipush hJ (v := 228) dX11_total_101 (q := 104) rfl (by decide) ?_
    refine q_iload_n hJ dX11_total_104 (q := 105) rfl rfl ?_
    refine q_iadd hJ dX11_total_105 (q := 106) rfl ?_
    refine q_iconst hJ (v := 5) dX11_total_106 (q := 107) rfl (by decide) ?_
    refine q_isub hJ dX11_total_107 (q := 108) rfl ?_
    refine q_iald hJ dX11_total_108 (q := 109) rfl (by first | exact ka317 | exact ka318 | exact ka319 | exact ka320 | exact ka321 | exact ka322) hix hvv ?_
    refine q_iret hM dX11_total_109 rfl rfl ?_
    exact ⟨by simp [totF, stTell, *], rfl, rfl, rfl⟩
  by_cases k_7 : w = 7
  · refine q_tswIn hJ (off := 96) (tgt := 97) dX11_total_1 (by rw [k_7]; decide) (by rw [k_7]; decide) (by rw [k_7]; decide) (by decide) ?_
    have hix : ix (228 + w - 5) (0 + 226 + 4) 826 := by rw [k_7]; exact ⟨by decide, by decide⟩
    have hvv : I 318 (0 + 226 + 4) = aS A 4 := hS 4 (by decide)
    refine q_aload_n hJ dX11_total_97 (q := 98) rfl rfl (by first | rfl | exact isR_rr _) ?_
    refine q_getR hJ dX11_total_98 (q := 101) rfl fl_X11_7 rfl (by first | exact ka317 | exact ka318 | exact ka319 | exact ka320 | exact ka321 | exact ka322) (by assumption) rfl ?_
    refine q_sipush hJ (v := 228) dX11_total_101 (q := 104) rfl (by decide) ?_
    refine q_iload_n hJ dX11_total_104 (q := 105) rfl rfl ?_
    refine q_iadd hJ dX11_total_105 (q := 106) rfl ?_
    refine q_iconst hJ (v := 5) dX11_total_106 (q := 107) rfl (by decide) ?_
    refine q_isub hJ dX11_total_107 (q := 108) rfl ?_
    refine q_iald hJ dX11_total_108 (q := 109) rfl (by first | exact ka317 | exact ka318 | exact ka319 | exact ka320 | exact ka321 | exact ka322) hix hvv ?_
    refine q_iret hM dX11_total_109 rfl rfl ?_
    exact ⟨by simp [totF, stTell, *], rfl, rfl, rfl⟩
  by_cases k_8 : w = 8
  · refine q_tswIn hJ (off := 96) (tgt := 97) dX11_total_1 (by rw [k_8]; decide) (by rw [k_8]; decide) (by rw [k_8]; decide) (by decide) ?_
    have hix : ix (228 + w - 5) (0 + 226 + 5) 826 := by rw [k_8]; exact ⟨by decide, by decide⟩
    have hvv : I 318 (0 + 226 + 5) = aS A 5 := hS 5 (by decide)
    refine q_aload_n hJ dX11_total_97 (q := 98) rfl rfl (by first | rfl | exact isR_rr _) ?_
    refine q_getR hJ dX11_total_98 (q := 101) rfl fl_X11_7 rfl (by first | exact ka317 | exact ka318 | exact ka319 | exact ka320 | exact ka321 | exact ka322) (by assumption) rfl ?_
    refine q_sipush hJ (v := 228) dX11_total_101 (q := 104) rfl (by decide) ?_
    refine q_iload_n hJ dX11_total_104 (q := 105) rfl rfl ?_
    refine q_iadd hJ dX11_total_105 (q := 106) rfl ?_
    refine q_iconst hJ (v := 5) dX11_total_106 (q := 107) rfl (by decide) ?_
    refine q_isub hJ dX11_total_107 (q := 108) rfl ?_
    refine q_iald hJ dX11_total_108 (q := 109) rfl (by first | exact ka317 | exact ka318 | exact ka319 | exact ka320 | exact ka321 | exact ka322) hix hvv ?_
    refine q_iret hM dX11_total_109 rfl rfl ?_
    exact ⟨by simp [totF, stTell, *], rfl, rfl, rfl⟩
  by_cases k_9 : w = 9
  · refine q_tswIn hJ (off := 96) (tgt := 97) dX11_total_1 (by rw [k_9]; decide) (by rw [k_9]; decide) (by rw [k_9]; decide) (by decide) ?_
    have hix : ix (228 + w - 5) (0 + 232) 826 := by rw [k_9]; exact ⟨by decide, by decide⟩
    have hvv : I 318 (0 + 232) = nI (aR A) := hL.1
    refine q_aload_n hJ dX11_total_97 (q := 98) rfl rfl (by first | rfl | exact isR_rr _) ?_
    refine q_getR hJ dX11_total_98 (q := 101) rfl fl_X11_7 rfl (by first | exact ka317 | exact ka318 | exact ka319 | exact ka320 | exact ka321 | exact ka322) (by assumption) rfl ?_
    refine q_sipush hJ (v := 228) dX11_total_101 (q := 104) rfl (by decide) ?_
    refine q_iload_n hJ dX11_total_104 (q := 105) rfl rfl ?_
    refine q_iadd hJ dX11_total_105 (q := 106) rfl ?_
    refine q_iconst hJ (v := 5) dX11_total_106 (q := 107) rfl (by decide) ?_
    refine q_isub hJ dX11_total_107 (q := 108) rfl ?_
    refine q_iald hJ dX11_total_108 (q := 109) rfl (by first | exact ka317 | exact ka318 | exact ka319 | exact ka320 | exact ka321 | exact ka322) hix hvv ?_
    refine q_iret hM dX11_total_109 rfl rfl ?_
    exact ⟨by simp [totF, stTell, *], rfl, rfl, rfl⟩
  by_cases k_10 : w = 10
  · refine q_tswIn hJ (off := 109) (tgt := 110) dX11_total_1 (by rw [k_10]; decide) (by rw [k_10]; decide) (by rw [k_10]; decide) (by decide) ?_
    refine q_aload_n hJ dX11_total_110 (q := 111) rfl rfl (by first | rfl | exact isR_rr _) ?_
    refine q_getI hJ dX11_total_111 (q := 114) rfl fl_X11_29 rfl (by first | exact ka317 | exact ka318 | exact ka319 | exact ka320 | exact ka321 | exact ka322) H.2.2.1.1 ?_
    refine q_iret hM dX11_total_114 rfl rfl ?_
    exact ⟨by simp [totF, stTell, *], rfl, rfl, rfl⟩
  by_cases k_11 : w = 11
  · refine q_tswIn hJ (off := 114) (tgt := 115) dX11_total_1 (by rw [k_11]; decide) (by rw [k_11]; decide) (by rw [k_11]; decide) (by decide) ?_
    refine q_aload_n hJ dX11_total_115 (q := 116) rfl rfl (by first | rfl | exact isR_rr _) ?_
    refine q_getI hJ dX11_total_116 (q := 119) rfl fl_X11_161 rfl (by first | exact ka317 | exact ka318 | exact ka319 | exact ka320 | exact ka321 | exact ka322) H.2.2.2.2.1 ?_
    refine q_iret hM dX11_total_119 rfl rfl ?_
    exact ⟨by simp [totF, stTell, *], rfl, rfl, rfl⟩
  refine q_tswOut hJ (tgt := 120) dX11_total_1 (tsw_out12 k_0 k_1 k_2 k_3 k_4 k_5 k_6 k_7 k_8 k_9 k_10 k_11) (by decide) ?_
  refine q_sipush hJ (v := (-1002)) dX11_total_120 (q := 123) rfl (by decide) ?_
  refine q_iret hM dX11_total_123 rfl rfl ?_
  exact ⟨by simp [totF, stTell, *], rfl, rfl, rfl⟩

