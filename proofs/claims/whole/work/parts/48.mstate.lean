/-! THE MODEL: statements -/
def SubN (sub : SubT) : Prop := ∀ f, sub = some f → ∀ ev r img X, ¬ xR X < 0 → ¬ xR (f ev r img X) < 0
theorem fire_nn {sub : SubT} (hs : SubN sub) (d r : Nat) (img : Nat → Int32) (X : XS) (h : ¬ xR X < 0) : ¬ xR (fireA sub d r img X).2.2 < 0 := by
  unfold fireA
  split
  · exact h
  · split
    · show ¬ (1 : Int32) < 0; decide
    · split
      · exact h
      · show ¬ xR (causeA sub d r img (cntA d r img X)) < 0
        unfold causeA
        split
        · show ¬ (2 : Int32) < 0; decide
        · rename_i f
          split
          · show ¬ (2 : Int32) < 0; decide
          · split
            · exact h
            · exact hs f rfl _ _ _ _ h
theorem fld_nn {sub : SubT} (hs : SubN sub) (d : Nat) (cs : List Nat) (ev mo : Int32) (od : Nat → Nat) (j k : Nat) (img : Nat → Int32) (X : XS) (h : ¬ xR X < 0) : ¬ xR (fldA sub d cs ev mo od j k img X).2.2 < 0 := by
  induction k generalizing j img X with
  | zero => exact h
  | succ k ih =>
    unfold fldA
    split
    · have h2 := fire_nn hs d (od j) img X h
      split
      · exact ih _ _ _ h2
      · exact h2
    · exact ih _ _ _ h
theorem opB_nn {sub : SubT} (hs : SubN sub) (d : Nat) (cs : List Nat) (ev cause : Int32) (img : Nat → Int32) (X : XS) (h : ¬ xR X < 0) : ¬ xR (opB sub d cs ev cause img X) < 0 := by
  unfold opB
  split
  · show ¬ (3 : Int32) < 0; decide
  · have h1 := fld_nn hs d cs ev 0 (odA (xA X)) 0 (aM (xA X)) img (begA d X) h
    split
    · exact fld_nn hs _ _ _ _ _ _ _ _ _ h1
    · exact h1
theorem opA_nn (lv : Nat) : ∀ (cs : List Nat) (ev cause : Int32) (img : Nat → Int32) (X : XS), ¬ xR X < 0 → ¬ xR (opA lv cs ev cause img X) < 0 := by
  induction lv with
  | zero => exact fun cs ev cause img X h => opB_nn (sub := none) (fun f z => by cases z) 8 cs ev cause img X h
  | succ lv ih => exact fun cs ev cause img X h => opB_nn (sub := some (fun ev2 r img2 X2 => opA lv (r :: cs) ev2 (nI r) img2 X2)) (fun f z ev2 r img2 X2 h2 => by cases z; exact ih _ _ _ _ _ h2) (7 - lv) cs ev cause img X h
theorem XR_nn (ev : Int32) (img : Nat → Int32) (A : AS) : ¬ xR (XR ev img A) < 0 := opA_nn 7 _ _ _ _ _ (by show ¬ (0 : Int32) < 0; decide)
def wnI (A : AS) (k : Int32) : Int32 := if (fK A k).isSome then -1004 else if aN A < 20 then 0 else -1003
def wnU (A : AS) (k : Int32) (f : Nat) (v : Int32) : Int32 := match fK A k with
  | none => -1001
  | some i => if aK A i (1 + f) = v then -1006 else 0
def MSy (I' : MI) (ok : Prop) (A A2 : AS) (hs : Nat → AS) (h : Nat) (sn : AS) (kp : Bool) (tx : Nat → Int32) (tn : Nat) : Prop := (ok ∧ MOD I' A2 (pushH hs h A) (pushN h) sn kp tx tn) ∨ (¬ ok ∧ MOD I' A hs h sn kp tx tn)
set_option maxRecDepth 100000 in
set_option maxHeartbeats 400000 in
theorem M_whyNotInsert (p : Nat) (hp : p ≤ 413) (k : Int32) (A : AS) (I : MI) (R : MR) (hFR : FR R) (hR : RowQ (I 318) p (aK A) (aN A)) (ok : okK (aK A) (aN A)) : Sp 1 0 0 mX11_whyNotInsert [.ref 317, .int (nI p), .int k] g0 I R (Mv (wnI A k) I R) := by
  have hm0 := hFR.2.2.2.2.2.1
  have hm1 := hFR.2.2.2.2.2.2.1
  have hm3 := hFR.2.2.2.2.2.2.2.1
  have hm5 := hFR.2.2.2.2.2.2.2.2.1
  have hm7 := hFR.2.2.2.2.2.2.2.2.2
  have hn20 := nI20 hR.2.1
  refine Sp.on (by decide +kernel) rfl rfl (fun J hM => ?_)
  have hJ := hM.ok
  rcases hf : fK A k with _ | i
  · refine q_aload_n hJ dX11_whyNotInsert_0 (q := 1) rfl rfl (by first | rfl | exact isR_rr _) ?_
    refine q_iload_n hJ dX11_whyNotInsert_1 (q := 2) rfl rfl ?_
    refine q_iload_n hJ dX11_whyNotInsert_2 (q := 3) rfl rfl ?_
    refine q_callV hJ dX11_whyNotInsert_3 (q := 6) rfl (M_rowOf I R p (aN A) k hp hR.1 hR.2.1 hFR) imX11_rowOf ln_X11_54 (by first | exact ka317 | exact ka318 | exact ka319 | exact ka320 | exact ka321 | exact ka322) (by decide) rfl rfl rfl rfl (Nat.le_of_ble_eq_true rfl) (by decide) (by decide) rfl rfl (fun rv gv Iv Rv hv => ?_)
    obtain ⟨rfl, rfl, rfl, rfl⟩ := hv
    rw [hR.none hf, show rwI p none = -1 from rfl]
    refine q_if_lt hJ (tgt := 15) dX11_whyNotInsert_6 (q := 9) rfl (by decide) (fun _ => ?_) (fun c1 => absurd (by decide) c1)
    refine q_aload_n hJ dX11_whyNotInsert_15 (q := 16) rfl rfl (by first | rfl | exact isR_rr _) ?_
    refine q_getR hJ dX11_whyNotInsert_16 (q := 19) rfl fl_X11_7 rfl (by first | exact ka317 | exact ka318 | exact ka319 | exact ka320 | exact ka321 | exact ka322) (by assumption) rfl ?_
    refine q_iload_n hJ dX11_whyNotInsert_19 (q := 20) rfl rfl ?_
    refine q_iconst hJ (v := 0) dX11_whyNotInsert_20 (q := 21) rfl (by decide) ?_
    refine q_iadd hJ dX11_whyNotInsert_21 (q := 22) rfl ?_
    refine q_iald hJ dX11_whyNotInsert_22 (q := 23) rfl (by first | exact ka317 | exact ka318 | exact ka319 | exact ka320 | exact ka321 | exact ka322) (ixE (j := p + 0) (by ((try simp only [nIl_add, nI_mul, nIl_0, nIl_1, nIl_2, nIl_3, nIl_4, nIl_5, nIl_6, nIl_7, nIl_8, nIl_9, nIl_10, nIl_11, nIl_12, nIl_20, nIl_60, nIl_72, nIl_80, nIl_81, nIl_82, nIl_99, nIl_100, nIl_226, nIl_227, nIl_228, nIl_229, nIl_230, nIl_231, nIl_232, nIl_233, nIl_413, nIl_1239, nIl_10000]) <;> first | done | rfl | exact congrArg nI (by omega))) (by omega) (by decide)) hR.1 ?_
    refine q_bipush hJ (v := 20) dX11_whyNotInsert_23 (q := 25) rfl (by decide) ?_
    refine q_icmp_ne hJ (tgt := 34) dX11_whyNotInsert_25 (q := 28) rfl (by decide) (fun c2 => ?_) (fun c2 => ?_)
    · refine q_iconst hJ (v := 0) dX11_whyNotInsert_34 (q := 35) rfl (by decide) ?_
      refine q_iret hM dX11_whyNotInsert_35 rfl rfl ?_
      first
        | exact ⟨congrArg (fun x => some (Value.int x)) (show (0 : Int32) = wnI A k by rw [wnI, hf]; exact (if_pos (Decidable.byContradiction fun z => c2 (hn20.mpr z))).symm), rfl, rfl, rfl⟩
        | exact ⟨congrArg (fun x => some (Value.int x)) (show (-1003 : Int32) = wnI A k by rw [wnI, hf]; exact (if_neg (hn20.mp c2)).symm), rfl, rfl, rfl⟩
    · refine q_sipush hJ (v := (-1003)) dX11_whyNotInsert_28 (q := 31) rfl (by decide) ?_
      refine q_goto hJ (tgt := 35) dX11_whyNotInsert_31 (by decide) ?_
      refine q_iret hM dX11_whyNotInsert_35 rfl rfl ?_
      first
        | exact ⟨congrArg (fun x => some (Value.int x)) (show (0 : Int32) = wnI A k by rw [wnI, hf]; exact (if_pos (Decidable.byContradiction fun z => c2 (hn20.mpr z))).symm), rfl, rfl, rfl⟩
        | exact ⟨congrArg (fun x => some (Value.int x)) (show (-1003 : Int32) = wnI A k by rw [wnI, hf]; exact (if_neg (hn20.mp c2)).symm), rfl, rfl, rfl⟩
  · obtain ⟨j, hj, hm, he⟩ := hR.some ok hf
    have hj20 := hR.2.1
    refine q_aload_n hJ dX11_whyNotInsert_0 (q := 1) rfl rfl (by first | rfl | exact isR_rr _) ?_
    refine q_iload_n hJ dX11_whyNotInsert_1 (q := 2) rfl rfl ?_
    refine q_iload_n hJ dX11_whyNotInsert_2 (q := 3) rfl rfl ?_
    refine q_callV hJ dX11_whyNotInsert_3 (q := 6) rfl (M_rowOf I R p (aN A) k hp hR.1 hR.2.1 hFR) imX11_rowOf ln_X11_54 (by first | exact ka317 | exact ka318 | exact ka319 | exact ka320 | exact ka321 | exact ka322) (by decide) rfl rfl rfl rfl (Nat.le_of_ble_eq_true rfl) (by decide) (by decide) rfl rfl (fun rv gv Iv Rv hv => ?_)
    obtain ⟨rfl, rfl, rfl, rfl⟩ := hv
    rw [hm, show rwI p (some j) = nI (p + 1 + 4 * j) from rfl]
    refine q_if_lt hJ (tgt := 15) dX11_whyNotInsert_6 (q := 9) rfl (by decide) (fun c1 => absurd c1 (nI_pos (by omega))) (fun _ => ?_)
    refine q_sipush hJ (v := (-1004)) dX11_whyNotInsert_9 (q := 12) rfl (by decide) ?_
    refine q_goto hJ (tgt := 35) dX11_whyNotInsert_12 (by decide) ?_
    refine q_iret hM dX11_whyNotInsert_35 rfl rfl ?_
    first
      | exact ⟨by rw [wnI, hf]; rfl, rfl, rfl, rfl⟩

set_option maxRecDepth 100000 in
set_option maxHeartbeats 400000 in
theorem M_whyNotUpdate (p f : Nat) (hp : p ≤ 413) (hf3 : f < 3) (k v : Int32) (A : AS) (I : MI) (R : MR) (hFR : FR R) (hR : RowQ (I 318) p (aK A) (aN A)) (ok : okK (aK A) (aN A)) : Sp 1 0 0 mX11_whyNotUpdate [.ref 317, .int (nI p), .int k, .int (nI f), .int v] g0 I R (Mv (wnU A k f v) I R) := by
  have hm0 := hFR.2.2.2.2.2.1
  have hm1 := hFR.2.2.2.2.2.2.1
  have hm3 := hFR.2.2.2.2.2.2.2.1
  have hm5 := hFR.2.2.2.2.2.2.2.2.1
  have hm7 := hFR.2.2.2.2.2.2.2.2.2
  refine Sp.on (by decide +kernel) rfl rfl (fun J hM => ?_)
  have hJ := hM.ok
  rcases hf : fK A k with _ | i
  · refine q_aload_n hJ dX11_whyNotUpdate_0 (q := 1) rfl rfl (by first | rfl | exact isR_rr _) ?_
    refine q_iload_n hJ dX11_whyNotUpdate_1 (q := 2) rfl rfl ?_
    refine q_iload_n hJ dX11_whyNotUpdate_2 (q := 3) rfl rfl ?_
    refine q_callV hJ dX11_whyNotUpdate_3 (q := 6) rfl (M_rowOf I R p (aN A) k hp hR.1 hR.2.1 hFR) imX11_rowOf ln_X11_54 (by first | exact ka317 | exact ka318 | exact ka319 | exact ka320 | exact ka321 | exact ka322) (by decide) rfl rfl rfl rfl (Nat.le_of_ble_eq_true rfl) (by decide) (by decide) rfl rfl (fun rv gv Iv Rv hv => ?_)
    obtain ⟨rfl, rfl, rfl, rfl⟩ := hv
    rw [hR.none hf, show rwI p none = -1 from rfl]
    refine q_istore hJ dX11_whyNotUpdate_6 (q := 8) rfl (by decide) ?_
    refine q_iload hJ dX11_whyNotUpdate_8 (q := 10) rfl rfl ?_
    refine q_if_ge hJ (tgt := 19) dX11_whyNotUpdate_10 (q := 13) rfl (by decide) (fun c1 => absurd c1 (by decide)) (fun _ => ?_)
    refine q_sipush hJ (v := (-1001)) dX11_whyNotUpdate_13 (q := 16) rfl (by decide) ?_
    refine q_goto hJ (tgt := 42) dX11_whyNotUpdate_16 (by decide) ?_
    refine q_iret hM dX11_whyNotUpdate_42 rfl rfl ?_
    exact ⟨congrArg (fun x => some (Value.int x)) (show (-1001 : Int32) = wnU A k f v by unfold wnU; rw [hf]), rfl, rfl, rfl⟩
  · obtain ⟨j, hj, hm, he⟩ := hR.some ok hf
    have hj20 := hR.2.1
    refine q_aload_n hJ dX11_whyNotUpdate_0 (q := 1) rfl rfl (by first | rfl | exact isR_rr _) ?_
    refine q_iload_n hJ dX11_whyNotUpdate_1 (q := 2) rfl rfl ?_
    refine q_iload_n hJ dX11_whyNotUpdate_2 (q := 3) rfl rfl ?_
    refine q_callV hJ dX11_whyNotUpdate_3 (q := 6) rfl (M_rowOf I R p (aN A) k hp hR.1 hR.2.1 hFR) imX11_rowOf ln_X11_54 (by first | exact ka317 | exact ka318 | exact ka319 | exact ka320 | exact ka321 | exact ka322) (by decide) rfl rfl rfl rfl (Nat.le_of_ble_eq_true rfl) (by decide) (by decide) rfl rfl (fun rv gv Iv Rv hv => ?_)
    obtain ⟨rfl, rfl, rfl, rfl⟩ := hv
    rw [hm, show rwI p (some j) = nI (p + 1 + 4 * j) from rfl]
    refine q_istore hJ dX11_whyNotUpdate_6 (q := 8) rfl (by decide) ?_
    refine q_iload hJ dX11_whyNotUpdate_8 (q := 10) rfl rfl ?_
    refine q_if_ge hJ (tgt := 19) dX11_whyNotUpdate_10 (q := 13) rfl (by decide) (fun _ => ?_) (fun c1 => absurd (nI_pos' (by omega)) c1)
    refine q_aload_n hJ dX11_whyNotUpdate_19 (q := 20) rfl rfl (by first | rfl | exact isR_rr _) ?_
    refine q_getR hJ dX11_whyNotUpdate_20 (q := 23) rfl fl_X11_7 rfl (by first | exact ka317 | exact ka318 | exact ka319 | exact ka320 | exact ka321 | exact ka322) (by assumption) rfl ?_
    refine q_iload hJ dX11_whyNotUpdate_23 (q := 25) rfl rfl ?_
    refine q_iconst hJ (v := 1) dX11_whyNotUpdate_25 (q := 26) rfl (by decide) ?_
    refine q_iadd hJ dX11_whyNotUpdate_26 (q := 27) rfl ?_
    refine q_iload_n hJ dX11_whyNotUpdate_27 (q := 28) rfl rfl ?_
    refine q_iadd hJ dX11_whyNotUpdate_28 (q := 29) rfl ?_
    refine q_iald hJ dX11_whyNotUpdate_29 (q := 30) rfl (by first | exact ka317 | exact ka318 | exact ka319 | exact ka320 | exact ka321 | exact ka322) (ixE (j := p + 1 + 4 * j + 1 + f) (by ((try simp only [nIl_add, nI_mul, nIl_0, nIl_1, nIl_2, nIl_3, nIl_4, nIl_5, nIl_6, nIl_7, nIl_8, nIl_9, nIl_10, nIl_11, nIl_12, nIl_20, nIl_60, nIl_72, nIl_80, nIl_81, nIl_82, nIl_99, nIl_100, nIl_226, nIl_227, nIl_228, nIl_229, nIl_230, nIl_231, nIl_232, nIl_233, nIl_413, nIl_1239, nIl_10000]) <;> first | done | rfl | exact congrArg nI (by omega))) (by omega) (by decide)) (show _ = aK A i (1 + f) by rw [Nat.add_assoc (p + 1 + 4 * j) 1 f]; exact he _ (by omega)) ?_
    refine q_iload hJ dX11_whyNotUpdate_30 (q := 32) rfl rfl ?_
    refine q_icmp_ne hJ (tgt := 41) dX11_whyNotUpdate_32 (q := 35) rfl (by decide) (fun c2 => ?_) (fun c2 => ?_)
    · refine q_iconst hJ (v := 0) dX11_whyNotUpdate_41 (q := 42) rfl (by decide) ?_
      refine q_iret hM dX11_whyNotUpdate_42 rfl rfl ?_
      first
        | exact ⟨congrArg (fun x => some (Value.int x)) (show (0 : Int32) = wnU A k f v by unfold wnU; rw [hf]; exact (if_neg c2).symm), rfl, rfl, rfl⟩
        | exact ⟨congrArg (fun x => some (Value.int x)) (show (-1006 : Int32) = wnU A k f v by unfold wnU; rw [hf]; exact (if_pos c2).symm), rfl, rfl, rfl⟩
    · refine q_sipush hJ (v := (-1006)) dX11_whyNotUpdate_35 (q := 38) rfl (by decide) ?_
      refine q_goto hJ (tgt := 42) dX11_whyNotUpdate_38 (by decide) ?_
      refine q_iret hM dX11_whyNotUpdate_42 rfl rfl ?_
      first
        | exact ⟨congrArg (fun x => some (Value.int x)) (show (0 : Int32) = wnU A k f v by unfold wnU; rw [hf]; exact (if_neg c2).symm), rfl, rfl, rfl⟩
        | exact ⟨congrArg (fun x => some (Value.int x)) (show (-1006 : Int32) = wnU A k f v by unfold wnU; rw [hf]; exact (if_pos c2).symm), rfl, rfl, rfl⟩

set_option maxRecDepth 100000 in
set_option maxHeartbeats 400000 in
theorem M_runsInsert (p : Nat) (hp : p ≤ 413) (k z o t : Int32) (A : AS) (I : MI) (R : MR) (hFR : FR R) (hM0 : MS (I 318) p A) (okA0 : okM A) (hc : cantA A k = 1) : Sp 8 0 0 mX11_runsInsert [.ref 317, .int (nI p), .int k, .int z, .int o, .int t] g0 I R (RnPo p (XR 0 (insI k z o t) A) I R) := by
  have hm0 := hFR.2.2.2.2.2.1
  have hm1 := hFR.2.2.2.2.2.2.1
  have hm3 := hFR.2.2.2.2.2.2.2.1
  have hm5 := hFR.2.2.2.2.2.2.2.2.1
  have hm7 := hFR.2.2.2.2.2.2.2.2.2
  refine Sp.on (by decide +kernel) rfl rfl (fun J hM => ?_)
  have hJ := hM.ok
  refine q_aload_n hJ dX11_runsInsert_0 (q := 1) rfl rfl (by first | rfl | exact isR_rr _) ?_
  refine q_iconst hJ (v := 1) dX11_runsInsert_1 (q := 2) rfl (by decide) ?_
  refine q_iconst hJ (v := 0) dX11_runsInsert_2 (q := 3) rfl (by decide) ?_
  refine q_iload_n hJ dX11_runsInsert_3 (q := 4) rfl rfl ?_
  refine q_sipush hJ (v := (-1006)) dX11_runsInsert_4 (q := 7) rfl (by decide) ?_
  refine q_callV hJ dX11_runsInsert_7 (q := 10) rfl (M_asks 1 (by decide) 0 k (-1006) I R hFR) imX11_asks ln_X11_86 (by first | exact ka317 | exact ka318 | exact ka319 | exact ka320 | exact ka321 | exact ka322) (by decide) rfl rfl rfl rfl (Nat.le_of_ble_eq_true rfl) (by decide) (by decide) rfl rfl (fun rv gv Iv Rv hv => ?_)
  obtain ⟨rfl, rfl, rfl, rfl⟩ := hv
  refine q_aload_n hJ dX11_runsInsert_10 (q := 11) rfl rfl (by first | rfl | exact isR_rr _) ?_
  refine q_getR hJ dX11_runsInsert_11 (q := 14) rfl fl_X11_22 rfl (by first | exact ka317 | exact ka318 | exact ka319 | exact ka320 | exact ka321 | exact ka322) (by assumption) rfl ?_
  refine q_bipush hJ (v := 10) dX11_runsInsert_14 (q := 16) rfl (by decide) ?_
  refine q_iload_n hJ dX11_runsInsert_16 (q := 17) rfl rfl ?_
  refine q_iast hJ dX11_runsInsert_17 (q := 18) rfl (by first | exact ka317 | exact ka318 | exact ka319 | exact ka320 | exact ka321 | exact ka322) (ixE (j := 10) (by ((try simp only [nIl_add, nI_mul, nIl_0, nIl_1, nIl_2, nIl_3, nIl_4, nIl_5, nIl_6, nIl_7, nIl_8, nIl_9, nIl_10, nIl_11, nIl_12, nIl_20, nIl_60, nIl_72, nIl_80, nIl_81, nIl_82, nIl_99, nIl_100, nIl_226, nIl_227, nIl_228, nIl_229, nIl_230, nIl_231, nIl_232, nIl_233, nIl_413, nIl_1239, nIl_10000]) <;> first | done | rfl | exact congrArg nI (by omega))) (by decide) (by decide)) ?_
  refine q_aload_n hJ dX11_runsInsert_18 (q := 19) rfl rfl (by first | rfl | exact isR_rr _) ?_
  refine q_getR hJ dX11_runsInsert_19 (q := 22) rfl fl_X11_22 rfl (by first | exact ka317 | exact ka318 | exact ka319 | exact ka320 | exact ka321 | exact ka322) (by assumption) rfl ?_
  refine q_bipush hJ (v := 11) dX11_runsInsert_22 (q := 24) rfl (by decide) ?_
  refine q_iload hJ dX11_runsInsert_24 (q := 26) rfl rfl ?_
  refine q_iast hJ dX11_runsInsert_26 (q := 27) rfl (by first | exact ka317 | exact ka318 | exact ka319 | exact ka320 | exact ka321 | exact ka322) (ixE (j := 11) (by ((try simp only [nIl_add, nI_mul, nIl_0, nIl_1, nIl_2, nIl_3, nIl_4, nIl_5, nIl_6, nIl_7, nIl_8, nIl_9, nIl_10, nIl_11, nIl_12, nIl_20, nIl_60, nIl_72, nIl_80, nIl_81, nIl_82, nIl_99, nIl_100, nIl_226, nIl_227, nIl_228, nIl_229, nIl_230, nIl_231, nIl_232, nIl_233, nIl_413, nIl_1239, nIl_10000]) <;> first | done | rfl | exact congrArg nI (by omega))) (by decide) (by decide)) ?_
  refine q_aload_n hJ dX11_runsInsert_27 (q := 28) rfl rfl (by first | rfl | exact isR_rr _) ?_
  refine q_getR hJ dX11_runsInsert_28 (q := 31) rfl fl_X11_22 rfl (by first | exact ka317 | exact ka318 | exact ka319 | exact ka320 | exact ka321 | exact ka322) (by assumption) rfl ?_
  refine q_bipush hJ (v := 12) dX11_runsInsert_31 (q := 33) rfl (by decide) ?_
  refine q_iload hJ dX11_runsInsert_33 (q := 35) rfl rfl ?_
  refine q_iast hJ dX11_runsInsert_35 (q := 36) rfl (by first | exact ka317 | exact ka318 | exact ka319 | exact ka320 | exact ka321 | exact ka322) (ixE (j := 12) (by ((try simp only [nIl_add, nI_mul, nIl_0, nIl_1, nIl_2, nIl_3, nIl_4, nIl_5, nIl_6, nIl_7, nIl_8, nIl_9, nIl_10, nIl_11, nIl_12, nIl_20, nIl_60, nIl_72, nIl_80, nIl_81, nIl_82, nIl_99, nIl_100, nIl_226, nIl_227, nIl_228, nIl_229, nIl_230, nIl_231, nIl_232, nIl_233, nIl_413, nIl_1239, nIl_10000]) <;> first | done | rfl | exact congrArg nI (by omega))) (by decide) (by decide)) ?_
  refine q_aload_n hJ dX11_runsInsert_36 (q := 37) rfl rfl (by first | rfl | exact isR_rr _) ?_
  refine q_iload_n hJ dX11_runsInsert_37 (q := 38) rfl rfl ?_
  refine q_iconst hJ (v := 0) dX11_runsInsert_38 (q := 39) rfl (by decide) ?_
  refine q_iconst hJ (v := 0) dX11_runsInsert_39 (q := 40) rfl (by decide) ?_
  have hI : ∀ s, s < 4 → (up2 (up2 (up2 (up2 (up2 (up2 I 322 (8 * 1 + 0) 0) 322 (8 * 1 + 1) k) 322 (8 * 1 + 7) (-1006)) 322 10 z) 322 11 o) 322 12 t) 322 (8 * 1 + 1 + s) = insI k z o t s := fun s hs => by
    rcases (show s = 0 ∨ s = 1 ∨ s = 2 ∨ s = 3 by omega) with rfl | rfl | rfl | rfl
    · rw [up2_i (by omega), up2_i (by omega), up2_i (by omega), up2_i (by omega), Nat.add_zero, up2_self]; rfl
    · rw [up2_i (by omega), up2_i (by omega), show 8 * 1 + 1 + 1 = 10 from rfl, up2_self]; rfl
    · rw [up2_i (by omega), show 8 * 1 + 1 + 2 = 11 from rfl, up2_self]; rfl
    · rw [show 8 * 1 + 1 + 3 = 12 from rfl, up2_self]; rfl
  refine q_callV hJ dX11_runsInsert_40 (q := 43) rfl (M_runs p 0 hp (by decide) 0 0 (-1006) (insI k z o t) (insI k z o t) A _ R hFR (hM0.at (Wnd.of fun i _ _ => by rw [up2_i (by omega), up2_i (by omega), up2_i (by omega), up2_i (by omega), up2_i (by omega), up2_i (by omega)])) okA0 (Or.inl rfl) (by rw [up2_i (by omega), up2_i (by omega), up2_i (by omega), up2_i (by omega), up2_i (by omega), up2_self]) hI (by rw [up2_i (by omega), up2_i (by omega), up2_i (by omega), up2_self]) (by unfold bgP; rw [if_pos rfl, show insI k z o t 0 = k from rfl, hc, if_neg (by decide)])) imX11_runs ln_X11_120 (by first | exact ka317 | exact ka318 | exact ka319 | exact ka320 | exact ka321 | exact ka322) (by decide) rfl rfl rfl rfl (Nat.le_of_ble_eq_true rfl) (by decide) (by decide) rfl rfl (fun rv gv Iv Rv hv => ?_)
  obtain ⟨rfl, rfl, rfl, hk, hm, hrest⟩ := hv
  refine q_vret hM dX11_runsInsert_43 rfl ?_
  exact ⟨rfl, rfl, rfl, ((((((((Kp.rf p I).u322 _ _).u322 _ _).u322 _ _)).u322 _ _).u322 _ _).u322 _ _).tr hk, hm, hrest⟩

set_option maxRecDepth 100000 in
set_option maxHeartbeats 400000 in
theorem M_runsUpdate (p f : Nat) (hf3 : f < 3) (hp : p ≤ 413) (k v : Int32) (img2 : Nat → Int32) (A : AS) (I : MI) (R : MR) (hFR : FR R) (hM0 : MS (I 318) p A) (okA0 : okM A) (hb : prUp A k (nI f) v = some img2) : Sp 8 0 0 mX11_runsUpdate [.ref 317, .int (nI p), .int k, .int (nI f), .int v] g0 I R (RnPo p (XR 1 img2 A) I R) := by
  have hm0 := hFR.2.2.2.2.2.1
  have hm1 := hFR.2.2.2.2.2.2.1
  have hm3 := hFR.2.2.2.2.2.2.2.1
  have hm5 := hFR.2.2.2.2.2.2.2.2.1
  have hm7 := hFR.2.2.2.2.2.2.2.2.2
  refine Sp.on (by decide +kernel) rfl rfl (fun J hM => ?_)
  have hJ := hM.ok
  refine q_aload_n hJ dX11_runsUpdate_0 (q := 1) rfl rfl (by first | rfl | exact isR_rr _) ?_
  refine q_iconst hJ (v := 1) dX11_runsUpdate_1 (q := 2) rfl (by decide) ?_
  refine q_iconst hJ (v := 1) dX11_runsUpdate_2 (q := 3) rfl (by decide) ?_
  refine q_iload_n hJ dX11_runsUpdate_3 (q := 4) rfl rfl ?_
  refine q_sipush hJ (v := (-1006)) dX11_runsUpdate_4 (q := 7) rfl (by decide) ?_
  refine q_callV hJ dX11_runsUpdate_7 (q := 10) rfl (M_asks 1 (by decide) 1 k (-1006) I R hFR) imX11_asks ln_X11_86 (by first | exact ka317 | exact ka318 | exact ka319 | exact ka320 | exact ka321 | exact ka322) (by decide) rfl rfl rfl rfl (Nat.le_of_ble_eq_true rfl) (by decide) (by decide) rfl rfl (fun rv gv Iv Rv hv => ?_)
  obtain ⟨rfl, rfl, rfl, rfl⟩ := hv
  refine q_aload_n hJ dX11_runsUpdate_10 (q := 11) rfl rfl (by first | rfl | exact isR_rr _) ?_
  refine q_iload_n hJ dX11_runsUpdate_11 (q := 12) rfl rfl ?_
  refine q_iload_n hJ dX11_runsUpdate_12 (q := 13) rfl rfl ?_
  refine q_iload hJ dX11_runsUpdate_13 (q := 15) rfl rfl ?_
  have e0 : (fun s => (up2 (up2 (up2 I 322 (8 * 1 + 0) 1) 322 (8 * 1 + 1) k) 322 (8 * 1 + 7) (-1006)) 322 (8 * 1 + 1 + s)) 0 = k := by
    show up2 (up2 (up2 I 322 (8 * 1 + 0) 1) 322 (8 * 1 + 1) k) 322 (8 * 1 + 7) (-1006) 322 (8 * 1 + 1 + 0) = k
    rw [up2_i (by omega), Nat.add_zero, up2_self]
  have hbb : bgP A 1 (fun s => (up2 (up2 (up2 I 322 (8 * 1 + 0) 1) 322 (8 * 1 + 1) k) 322 (8 * 1 + 7) (-1006)) 322 (8 * 1 + 1 + s)) f v = some img2 := by
    unfold bgP
    rw [if_neg (by decide), if_pos rfl, e0]; exact hb
  refine q_callV hJ dX11_runsUpdate_15 (q := 18) rfl (M_runs p f hp hf3 1 v (-1006) (fun s => (up2 (up2 (up2 I 322 (8 * 1 + 0) 1) 322 (8 * 1 + 1) k) 322 (8 * 1 + 7) (-1006)) 322 (8 * 1 + 1 + s)) img2 A _ R hFR (hM0.at (Wnd.of fun i _ _ => by rw [up2_i (by omega), up2_i (by omega), up2_i (by omega)])) okA0 (by decide) (by rw [up2_i (by omega), up2_i (by omega), up2_self]) (fun s hs => rfl) (by rw [up2_self]) hbb) imX11_runs ln_X11_120 (by first | exact ka317 | exact ka318 | exact ka319 | exact ka320 | exact ka321 | exact ka322) (by decide) rfl rfl rfl rfl (Nat.le_of_ble_eq_true rfl) (by decide) (by decide) rfl rfl (fun rv gv Iv Rv hv => ?_)
  obtain ⟨rfl, rfl, rfl, hk, hm, hrest⟩ := hv
  refine q_vret hM dX11_runsUpdate_18 rfl ?_
  exact ⟨rfl, rfl, rfl, (((((Kp.rf p I).u322 _ _).u322 _ _).u322 _ _)).tr hk, hm, hrest⟩

set_option maxRecDepth 100000 in
set_option maxHeartbeats 400000 in
theorem M_runsDelete (p : Nat) (hp : p ≤ 413) (k : Int32) (img2 : Nat → Int32) (A : AS) (I : MI) (R : MR) (hFR : FR R) (hM0 : MS (I 318) p A) (okA0 : okM A) (hb : prDel A k = some img2) : Sp 8 0 0 mX11_runsDelete [.ref 317, .int (nI p), .int k] g0 I R (RnPo p (XR 2 img2 A) I R) := by
  have hm0 := hFR.2.2.2.2.2.1
  have hm1 := hFR.2.2.2.2.2.2.1
  have hm3 := hFR.2.2.2.2.2.2.2.1
  have hm5 := hFR.2.2.2.2.2.2.2.2.1
  have hm7 := hFR.2.2.2.2.2.2.2.2.2
  refine Sp.on (by decide +kernel) rfl rfl (fun J hM => ?_)
  have hJ := hM.ok
  refine q_aload_n hJ dX11_runsDelete_0 (q := 1) rfl rfl (by first | rfl | exact isR_rr _) ?_
  refine q_iconst hJ (v := 1) dX11_runsDelete_1 (q := 2) rfl (by decide) ?_
  refine q_iconst hJ (v := 2) dX11_runsDelete_2 (q := 3) rfl (by decide) ?_
  refine q_iload_n hJ dX11_runsDelete_3 (q := 4) rfl rfl ?_
  refine q_sipush hJ (v := (-1006)) dX11_runsDelete_4 (q := 7) rfl (by decide) ?_
  refine q_callV hJ dX11_runsDelete_7 (q := 10) rfl (M_asks 1 (by decide) 2 k (-1006) I R hFR) imX11_asks ln_X11_86 (by first | exact ka317 | exact ka318 | exact ka319 | exact ka320 | exact ka321 | exact ka322) (by decide) rfl rfl rfl rfl (Nat.le_of_ble_eq_true rfl) (by decide) (by decide) rfl rfl (fun rv gv Iv Rv hv => ?_)
  obtain ⟨rfl, rfl, rfl, rfl⟩ := hv
  refine q_aload_n hJ dX11_runsDelete_10 (q := 11) rfl rfl (by first | rfl | exact isR_rr _) ?_
  refine q_iload_n hJ dX11_runsDelete_11 (q := 12) rfl rfl ?_
  refine q_iconst hJ (v := 0) dX11_runsDelete_12 (q := 13) rfl (by decide) ?_
  refine q_iconst hJ (v := 0) dX11_runsDelete_13 (q := 14) rfl (by decide) ?_
  have e0 : (fun s => (up2 (up2 (up2 I 322 (8 * 1 + 0) 2) 322 (8 * 1 + 1) k) 322 (8 * 1 + 7) (-1006)) 322 (8 * 1 + 1 + s)) 0 = k := by
    show up2 (up2 (up2 I 322 (8 * 1 + 0) 2) 322 (8 * 1 + 1) k) 322 (8 * 1 + 7) (-1006) 322 (8 * 1 + 1 + 0) = k
    rw [up2_i (by omega), Nat.add_zero, up2_self]
  have hbb : bgP A 2 (fun s => (up2 (up2 (up2 I 322 (8 * 1 + 0) 2) 322 (8 * 1 + 1) k) 322 (8 * 1 + 7) (-1006)) 322 (8 * 1 + 1 + s)) 0 0 = some img2 := by
    unfold bgP
    rw [if_neg (by decide), if_neg (by decide), e0]; exact hb
  refine q_callV hJ dX11_runsDelete_14 (q := 17) rfl (M_runs p 0 hp (by decide) 2 0 (-1006) (fun s => (up2 (up2 (up2 I 322 (8 * 1 + 0) 2) 322 (8 * 1 + 1) k) 322 (8 * 1 + 7) (-1006)) 322 (8 * 1 + 1 + s)) img2 A _ R hFR (hM0.at (Wnd.of fun i _ _ => by rw [up2_i (by omega), up2_i (by omega), up2_i (by omega)])) okA0 (by decide) (by rw [up2_i (by omega), up2_i (by omega), up2_self]) (fun s hs => rfl) (by rw [up2_self]) hbb) imX11_runs ln_X11_120 (by first | exact ka317 | exact ka318 | exact ka319 | exact ka320 | exact ka321 | exact ka322) (by decide) rfl rfl rfl rfl (Nat.le_of_ble_eq_true rfl) (by decide) (by decide) rfl rfl (fun rv gv Iv Rv hv => ?_)
  obtain ⟨rfl, rfl, rfl, hk, hm, hrest⟩ := hv
  refine q_vret hM dX11_runsDelete_17 rfl ?_
  exact ⟨rfl, rfl, rfl, (((((Kp.rf p I).u322 _ _).u322 _ _).u322 _ _)).tr hk, hm, hrest⟩

