/-! THE MODEL: its small words -/
theorem nIl_0 : (0 : Int32) = nI 0 := rfl
theorem nIl_1 : (1 : Int32) = nI 1 := rfl
theorem nIl_2 : (2 : Int32) = nI 2 := rfl
theorem nIl_3 : (3 : Int32) = nI 3 := rfl
theorem nIl_4 : (4 : Int32) = nI 4 := rfl
theorem nIl_5 : (5 : Int32) = nI 5 := rfl
theorem nIl_6 : (6 : Int32) = nI 6 := rfl
theorem nIl_7 : (7 : Int32) = nI 7 := rfl
theorem nIl_8 : (8 : Int32) = nI 8 := rfl
theorem nIl_9 : (9 : Int32) = nI 9 := rfl
theorem nIl_10 : (10 : Int32) = nI 10 := rfl
theorem nIl_11 : (11 : Int32) = nI 11 := rfl
theorem nIl_12 : (12 : Int32) = nI 12 := rfl
theorem nIl_20 : (20 : Int32) = nI 20 := rfl
theorem nIl_60 : (60 : Int32) = nI 60 := rfl
theorem nIl_72 : (72 : Int32) = nI 72 := rfl
theorem nIl_80 : (80 : Int32) = nI 80 := rfl
theorem nIl_81 : (81 : Int32) = nI 81 := rfl
theorem nIl_82 : (82 : Int32) = nI 82 := rfl
theorem nIl_99 : (99 : Int32) = nI 99 := rfl
theorem nIl_100 : (100 : Int32) = nI 100 := rfl
theorem nIl_226 : (226 : Int32) = nI 226 := rfl
theorem nIl_227 : (227 : Int32) = nI 227 := rfl
theorem nIl_228 : (228 : Int32) = nI 228 := rfl
theorem nIl_229 : (229 : Int32) = nI 229 := rfl
theorem nIl_230 : (230 : Int32) = nI 230 := rfl
theorem nIl_231 : (231 : Int32) = nI 231 := rfl
theorem nIl_232 : (232 : Int32) = nI 232 := rfl
theorem nIl_233 : (233 : Int32) = nI 233 := rfl
theorem nIl_413 : (413 : Int32) = nI 413 := rfl
theorem nIl_1239 : (1239 : Int32) = nI 1239 := rfl
theorem nIl_10000 : (10000 : Int32) = nI 10000 := rfl
theorem nIl_add (a b : Nat) : nI a + nI b = nI (a + b) := (Int32.ofNat_add a b).symm
theorem ixE {x : Int32} {j n : Nat} (h : x = nI j) (hj : j < n) (hn : n ≤ 2000000) : ix x j n := h ▸ ix_nI hj hn
theorem ka317 : KA g0 317 11 0 := ka0 (by decide)
theorem ka318 : KA g0 318 13 826 := ka0 (by decide)
theorem ka319 : KA g0 319 13 1652 := ka0 (by decide)
theorem ka320 : KA g0 320 13 413 := ka0 (by decide)
theorem ka321 : KA g0 321 13 80 := ka0 (by decide)
theorem ka322 : KA g0 322 13 72 := ka0 (by decide)
/-- a model's answer, nothing written -/
abbrev Mv (v : Int32) (I : MI) (R : MR) : Po := Rt (some (.int v)) g0 I R
def rwI (p : Nat) : Option Nat → Int32
  | none => -1
  | some j => nI (p + 1 + 4 * j)
set_option maxRecDepth 100000 in
set_option maxHeartbeats 400000 in
theorem M_in (v lo hi : Int32) (I : MI) (R : MR) : Sp 0 0 0 mX11_in [.int v, .int lo, .int hi] g0 I R (Mv (inR v lo hi) I R) := by
  refine Sp.on (by decide +kernel) rfl rfl (fun J hM => ?_)
  have hJ := hM.ok
  refine q_iload_n hJ dX11_in_0 (q := 1) rfl rfl ?_
  refine q_iload_n hJ dX11_in_1 (q := 2) rfl rfl ?_
  refine q_icmp_lt hJ (tgt := 14) dX11_in_2 (q := 5) rfl (by decide) (fun c1 => ?_) (fun c1 => ?_)
  · refine q_iconst hJ (v := 0) dX11_in_14 (q := 15) rfl (by decide) ?_
    refine q_iret hM dX11_in_15 rfl (by (first | decide | assumption)) ?_
    exact ⟨by simp [inR, *], rfl, rfl, rfl⟩
  · refine q_iload_n hJ dX11_in_5 (q := 6) rfl rfl ?_
    refine q_iload_n hJ dX11_in_6 (q := 7) rfl rfl ?_
    refine q_icmp_gt hJ (tgt := 14) dX11_in_7 (q := 10) rfl (by decide) (fun c2 => ?_) (fun c2 => ?_)
    · refine q_iconst hJ (v := 0) dX11_in_14 (q := 15) rfl (by decide) ?_
      refine q_iret hM dX11_in_15 rfl (by (first | decide | assumption)) ?_
      exact ⟨by simp [inR, *], rfl, rfl, rfl⟩
    · refine q_iconst hJ (v := 1) dX11_in_10 (q := 11) rfl (by decide) ?_
      refine q_goto hJ (tgt := 15) dX11_in_11 (by decide) ?_
      refine q_iret hM dX11_in_15 rfl (by (first | decide | assumption)) ?_
      exact ⟨by simp [inR, *], rfl, rfl, rfl⟩

set_option maxRecDepth 100000 in
set_option maxHeartbeats 400000 in
theorem M_isKey (x : Int32) (I : MI) (R : MR) : Sp 1 0 0 mX11_isKey [.int x] g0 I R (Mv (inR x (0) (99)) I R) := by
  refine Sp.on (by decide +kernel) rfl rfl (fun J hM => ?_)
  have hJ := hM.ok
  refine q_iload_n hJ dX11_isKey_0 (q := 1) rfl rfl ?_
  refine q_iconst hJ (v := 0) dX11_isKey_1 (q := 2) rfl (by decide) ?_
  refine q_bipush hJ (v := 99) dX11_isKey_2 (q := 4) rfl (by decide) ?_
  refine q_callS hJ dX11_isKey_4 (q := 7) rfl (M_in x (0) (99) I R) imX11_in ln_X11_25 rfl rfl rfl (Nat.le_of_ble_eq_true rfl) (by decide) (by decide) rfl rfl (fun rv gv Iv Rv hv => ?_)
  obtain ⟨rfl, rfl, rfl, rfl⟩ := hv
  refine q_iret hM dX11_isKey_7 rfl (nz rfl (inR_01 _ _ _)) ?_
  exact ⟨rfl, rfl, rfl, rfl⟩

set_option maxRecDepth 100000 in
set_option maxHeartbeats 400000 in
theorem M_isValue (x : Int32) (I : MI) (R : MR) : Sp 1 0 0 mX11_isValue [.int x] g0 I R (Mv (inR x (-999) (999)) I R) := by
  refine Sp.on (by decide +kernel) rfl rfl (fun J hM => ?_)
  have hJ := hM.ok
  refine q_iload_n hJ dX11_isValue_0 (q := 1) rfl rfl ?_
  refine q_sipush hJ (v := (-999)) dX11_isValue_1 (q := 4) rfl (by decide) ?_
  refine q_sipush hJ (v := 999) dX11_isValue_4 (q := 7) rfl (by decide) ?_
  refine q_callS hJ dX11_isValue_7 (q := 10) rfl (M_in x (-999) (999) I R) imX11_in ln_X11_25 rfl rfl rfl (Nat.le_of_ble_eq_true rfl) (by decide) (by decide) rfl rfl (fun rv gv Iv Rv hv => ?_)
  obtain ⟨rfl, rfl, rfl, rfl⟩ := hv
  refine q_iret hM dX11_isValue_10 rfl (nz rfl (inR_01 _ _ _)) ?_
  exact ⟨rfl, rfl, rfl, rfl⟩

set_option maxRecDepth 100000 in
set_option maxHeartbeats 400000 in
theorem M_ruleAt (p r : Nat) (I : MI) (R : MR) : Sp 0 0 0 mX11_ruleAt [.int (nI p), .int (nI r)] g0 I R (Mv (nI (p + 82 + 12 * r)) I R) := by
  refine Sp.on (by decide +kernel) rfl rfl (fun J hM => ?_)
  have hJ := hM.ok
  refine q_iload_n hJ dX11_ruleAt_0 (q := 1) rfl rfl ?_
  refine q_bipush hJ (v := 82) dX11_ruleAt_1 (q := 3) rfl (by decide) ?_
  refine q_iadd hJ dX11_ruleAt_3 (q := 4) rfl ?_
  refine q_bipush hJ (v := 12) dX11_ruleAt_4 (q := 6) rfl (by decide) ?_
  refine q_iload_n hJ dX11_ruleAt_6 (q := 7) rfl rfl ?_
  refine q_imul hJ dX11_ruleAt_7 (q := 8) rfl ?_
  refine q_iadd hJ dX11_ruleAt_8 (q := 9) rfl ?_
  refine q_iret hM dX11_ruleAt_9 rfl rfl ?_
  exact ⟨by congr 2; ((try simp only [nIl_add, nI_mul, nIl_0, nIl_1, nIl_2, nIl_3, nIl_4, nIl_5, nIl_6, nIl_7, nIl_8, nIl_9, nIl_10, nIl_11, nIl_12, nIl_20, nIl_60, nIl_72, nIl_80, nIl_81, nIl_82, nIl_99, nIl_100, nIl_226, nIl_227, nIl_228, nIl_229, nIl_230, nIl_231, nIl_232, nIl_233, nIl_413, nIl_1239, nIl_10000]) <;> first | done | rfl | exact congrArg nI (by omega)), rfl, rfl, rfl⟩

set_option maxRecDepth 100000 in
set_option maxHeartbeats 400000 in
theorem M_refuses (w x : Int32) (I : MI) (R : MR) : Sp 0 0 0 mX11_refuses [.ref 317, .int w, .int x] g0 I R (Rt none g0 (up2 (up2 I 317 11 w) 317 12 x) R) := by
  refine Sp.on (by decide +kernel) rfl rfl (fun J hM => ?_)
  have hJ := hM.ok
  refine q_aload_n hJ dX11_refuses_0 (q := 1) rfl rfl (by first | rfl | exact isR_rr _) ?_
  refine q_iload_n hJ dX11_refuses_1 (q := 2) rfl rfl ?_
  refine q_putI hJ dX11_refuses_2 (q := 5) rfl fl_X11_48 rfl rfl (by first | exact ka317 | exact ka318 | exact ka319 | exact ka320 | exact ka321 | exact ka322) rfl rfl ?_
  refine q_aload_n hJ dX11_refuses_5 (q := 6) rfl rfl (by first | rfl | exact isR_rr _) ?_
  refine q_iload_n hJ dX11_refuses_6 (q := 7) rfl rfl ?_
  refine q_putI hJ dX11_refuses_7 (q := 10) rfl fl_X11_51 rfl rfl (by first | exact ka317 | exact ka318 | exact ka319 | exact ka320 | exact ka321 | exact ka322) rfl rfl ?_
  refine q_vret hM dX11_refuses_10 rfl ?_
  exact ⟨rfl, rfl, rfl, rfl⟩

set_option maxRecDepth 100000 in
set_option maxHeartbeats 400000 in
theorem M_asks (d : Nat) (hd : d < 9) (e k c : Int32) (I : MI) (R : MR) (hFR : FR R) : Sp 0 0 0 mX11_asks [.ref 317, .int (nI d), .int e, .int k, .int c] g0 I R (Rt none g0 (up2 (up2 (up2 I 322 (8 * d + 0) e) 322 (8 * d + 1) k) 322 (8 * d + 7) c) R) := by
  have hm0 := hFR.2.2.2.2.2.1
  have hm1 := hFR.2.2.2.2.2.2.1
  have hm3 := hFR.2.2.2.2.2.2.2.1
  have hm5 := hFR.2.2.2.2.2.2.2.2.1
  have hm7 := hFR.2.2.2.2.2.2.2.2.2
  refine Sp.on (by decide +kernel) rfl rfl (fun J hM => ?_)
  have hJ := hM.ok
  refine q_aload_n hJ dX11_asks_0 (q := 1) rfl rfl (by first | rfl | exact isR_rr _) ?_
  refine q_getR hJ dX11_asks_1 (q := 4) rfl fl_X11_22 rfl (by first | exact ka317 | exact ka318 | exact ka319 | exact ka320 | exact ka321 | exact ka322) (by assumption) rfl ?_
  refine q_bipush hJ (v := 8) dX11_asks_4 (q := 6) rfl (by decide) ?_
  refine q_iload_n hJ dX11_asks_6 (q := 7) rfl rfl ?_
  refine q_imul hJ dX11_asks_7 (q := 8) rfl ?_
  refine q_iconst hJ (v := 0) dX11_asks_8 (q := 9) rfl (by decide) ?_
  refine q_iadd hJ dX11_asks_9 (q := 10) rfl ?_
  refine q_iload_n hJ dX11_asks_10 (q := 11) rfl rfl ?_
  refine q_iast hJ dX11_asks_11 (q := 12) rfl (by first | exact ka317 | exact ka318 | exact ka319 | exact ka320 | exact ka321 | exact ka322) (ixE (j := 8 * d + 0) (by ((try simp only [nIl_add, nI_mul, nIl_0, nIl_1, nIl_2, nIl_3, nIl_4, nIl_5, nIl_6, nIl_7, nIl_8, nIl_9, nIl_10, nIl_11, nIl_12, nIl_20, nIl_60, nIl_72, nIl_80, nIl_81, nIl_82, nIl_99, nIl_100, nIl_226, nIl_227, nIl_228, nIl_229, nIl_230, nIl_231, nIl_232, nIl_233, nIl_413, nIl_1239, nIl_10000]) <;> first | done | rfl | exact congrArg nI (by omega))) (by omega) (by decide)) ?_
  refine q_aload_n hJ dX11_asks_12 (q := 13) rfl rfl (by first | rfl | exact isR_rr _) ?_
  refine q_getR hJ dX11_asks_13 (q := 16) rfl fl_X11_22 rfl (by first | exact ka317 | exact ka318 | exact ka319 | exact ka320 | exact ka321 | exact ka322) (by assumption) rfl ?_
  refine q_bipush hJ (v := 8) dX11_asks_16 (q := 18) rfl (by decide) ?_
  refine q_iload_n hJ dX11_asks_18 (q := 19) rfl rfl ?_
  refine q_imul hJ dX11_asks_19 (q := 20) rfl ?_
  refine q_iconst hJ (v := 1) dX11_asks_20 (q := 21) rfl (by decide) ?_
  refine q_iadd hJ dX11_asks_21 (q := 22) rfl ?_
  refine q_iload_n hJ dX11_asks_22 (q := 23) rfl rfl ?_
  refine q_iast hJ dX11_asks_23 (q := 24) rfl (by first | exact ka317 | exact ka318 | exact ka319 | exact ka320 | exact ka321 | exact ka322) (ixE (j := 8 * d + 1) (by ((try simp only [nIl_add, nI_mul, nIl_0, nIl_1, nIl_2, nIl_3, nIl_4, nIl_5, nIl_6, nIl_7, nIl_8, nIl_9, nIl_10, nIl_11, nIl_12, nIl_20, nIl_60, nIl_72, nIl_80, nIl_81, nIl_82, nIl_99, nIl_100, nIl_226, nIl_227, nIl_228, nIl_229, nIl_230, nIl_231, nIl_232, nIl_233, nIl_413, nIl_1239, nIl_10000]) <;> first | done | rfl | exact congrArg nI (by omega))) (by omega) (by decide)) ?_
  refine q_aload_n hJ dX11_asks_24 (q := 25) rfl rfl (by first | rfl | exact isR_rr _) ?_
  refine q_getR hJ dX11_asks_25 (q := 28) rfl fl_X11_22 rfl (by first | exact ka317 | exact ka318 | exact ka319 | exact ka320 | exact ka321 | exact ka322) (by assumption) rfl ?_
  refine q_bipush hJ (v := 8) dX11_asks_28 (q := 30) rfl (by decide) ?_
  refine q_iload_n hJ dX11_asks_30 (q := 31) rfl rfl ?_
  refine q_imul hJ dX11_asks_31 (q := 32) rfl ?_
  refine q_bipush hJ (v := 7) dX11_asks_32 (q := 34) rfl (by decide) ?_
  refine q_iadd hJ dX11_asks_34 (q := 35) rfl ?_
  refine q_iload hJ dX11_asks_35 (q := 37) rfl rfl ?_
  refine q_iast hJ dX11_asks_37 (q := 38) rfl (by first | exact ka317 | exact ka318 | exact ka319 | exact ka320 | exact ka321 | exact ka322) (ixE (j := 8 * d + 7) (by ((try simp only [nIl_add, nI_mul, nIl_0, nIl_1, nIl_2, nIl_3, nIl_4, nIl_5, nIl_6, nIl_7, nIl_8, nIl_9, nIl_10, nIl_11, nIl_12, nIl_20, nIl_60, nIl_72, nIl_80, nIl_81, nIl_82, nIl_99, nIl_100, nIl_226, nIl_227, nIl_228, nIl_229, nIl_230, nIl_231, nIl_232, nIl_233, nIl_413, nIl_1239, nIl_10000]) <;> first | done | rfl | exact congrArg nI (by omega))) (by omega) (by decide)) ?_
  refine q_vret hM dX11_asks_38 rfl ?_
  exact ⟨rfl, rfl, rfl, rfl⟩

set_option maxRecDepth 100000 in
set_option maxHeartbeats 400000 in
theorem M_rowOf (I : MI) (R : MR) (p n : Nat) (key : Int32) (hp : p ≤ 413) (hn : I 318 (p + 0) = nI n) (hn20 : n ≤ 20) (hFR : FR R) : Sp 0 0 0 mX11_rowOf [.ref 317, .int (nI p), .int key] g0 I R (Mv (rwI p (fndF (fun t => I 318 (p + 1 + 4 * t) = key) 0 n)) I R) := by
  have hm0 := hFR.2.2.2.2.2.1
  have hm1 := hFR.2.2.2.2.2.2.1
  have hm3 := hFR.2.2.2.2.2.2.2.1
  have hm5 := hFR.2.2.2.2.2.2.2.2.1
  have hm7 := hFR.2.2.2.2.2.2.2.2.2
  refine Sp.on (by decide +kernel) rfl rfl (fun J hM => ?_)
  have hJ := hM.ok
  have loop : ∀ (k j : Nat), k + j = n → fndF (fun t => I 318 (p + 1 + 4 * t) = key) 0 n = fndF (fun t => I 318 (p + 1 + 4 * t) = key) j k → J 0 0 2 [some (.ref 317), some (.int (nI p)), some (.int key), some (.int (nI j))] [] g0 I R := by
    intro k
    induction k with
    | zero =>
      intro j hm hf
      refine q_iload_n hJ dX11_rowOf_2 (q := 3) rfl rfl ?_
      refine q_aload_n hJ dX11_rowOf_3 (q := 4) rfl rfl (by first | rfl | exact isR_rr _) ?_
      refine q_getR hJ dX11_rowOf_4 (q := 7) rfl fl_X11_7 rfl (by first | exact ka317 | exact ka318 | exact ka319 | exact ka320 | exact ka321 | exact ka322) (by assumption) rfl ?_
      refine q_iload_n hJ dX11_rowOf_7 (q := 8) rfl rfl ?_
      refine q_iconst hJ (v := 0) dX11_rowOf_8 (q := 9) rfl (by decide) ?_
      refine q_iadd hJ dX11_rowOf_9 (q := 10) rfl ?_
      refine q_iald hJ dX11_rowOf_10 (q := 11) rfl (by first | exact ka317 | exact ka318 | exact ka319 | exact ka320 | exact ka321 | exact ka322) (ixE (j := p + 0) (by ((try simp only [nIl_add, nI_mul, nIl_0, nIl_1, nIl_2, nIl_3, nIl_4, nIl_5, nIl_6, nIl_7, nIl_8, nIl_9, nIl_10, nIl_11, nIl_12, nIl_20, nIl_60, nIl_72, nIl_80, nIl_81, nIl_82, nIl_99, nIl_100, nIl_226, nIl_227, nIl_228, nIl_229, nIl_230, nIl_231, nIl_232, nIl_233, nIl_413, nIl_1239, nIl_10000]) <;> first | done | rfl | exact congrArg nI (by omega))) (by omega) (by decide)) hn ?_
      refine q_icmp_ge hJ (tgt := 44) dX11_rowOf_11 (q := 14) rfl (by decide) (fun _ => ?_) (fun c5 => absurd ((nI_leI (a := n) (b := j) (by omega) (by omega)).mpr (by omega)) c5)
      refine q_iconst hJ (v := (-1)) dX11_rowOf_44 (q := 45) rfl (by decide) ?_
      refine q_iret hM dX11_rowOf_45 rfl rfl ?_
      exact ⟨by rw [hf]; rfl, rfl, rfl, rfl⟩
    | succ k ih =>
      intro j hm hf
      refine q_iload_n hJ dX11_rowOf_2 (q := 3) rfl rfl ?_
      refine q_aload_n hJ dX11_rowOf_3 (q := 4) rfl rfl (by first | rfl | exact isR_rr _) ?_
      refine q_getR hJ dX11_rowOf_4 (q := 7) rfl fl_X11_7 rfl (by first | exact ka317 | exact ka318 | exact ka319 | exact ka320 | exact ka321 | exact ka322) (by assumption) rfl ?_
      refine q_iload_n hJ dX11_rowOf_7 (q := 8) rfl rfl ?_
      refine q_iconst hJ (v := 0) dX11_rowOf_8 (q := 9) rfl (by decide) ?_
      refine q_iadd hJ dX11_rowOf_9 (q := 10) rfl ?_
      refine q_iald hJ dX11_rowOf_10 (q := 11) rfl (by first | exact ka317 | exact ka318 | exact ka319 | exact ka320 | exact ka321 | exact ka322) (ixE (j := p + 0) (by ((try simp only [nIl_add, nI_mul, nIl_0, nIl_1, nIl_2, nIl_3, nIl_4, nIl_5, nIl_6, nIl_7, nIl_8, nIl_9, nIl_10, nIl_11, nIl_12, nIl_20, nIl_60, nIl_72, nIl_80, nIl_81, nIl_82, nIl_99, nIl_100, nIl_226, nIl_227, nIl_228, nIl_229, nIl_230, nIl_231, nIl_232, nIl_233, nIl_413, nIl_1239, nIl_10000]) <;> first | done | rfl | exact congrArg nI (by omega))) (by omega) (by decide)) hn ?_
      refine q_icmp_ge hJ (tgt := 44) dX11_rowOf_11 (q := 14) rfl (by decide) (fun c5 => absurd ((nI_leI (a := n) (b := j) (by omega) (by omega)).mp c5) (by omega)) (fun _ => ?_)
      refine q_aload_n hJ dX11_rowOf_14 (q := 15) rfl rfl (by first | rfl | exact isR_rr _) ?_
      refine q_getR hJ dX11_rowOf_15 (q := 18) rfl fl_X11_7 rfl (by first | exact ka317 | exact ka318 | exact ka319 | exact ka320 | exact ka321 | exact ka322) (by assumption) rfl ?_
      refine q_iload_n hJ dX11_rowOf_18 (q := 19) rfl rfl ?_
      refine q_iconst hJ (v := 1) dX11_rowOf_19 (q := 20) rfl (by decide) ?_
      refine q_iadd hJ dX11_rowOf_20 (q := 21) rfl ?_
      refine q_iconst hJ (v := 4) dX11_rowOf_21 (q := 22) rfl (by decide) ?_
      refine q_iload_n hJ dX11_rowOf_22 (q := 23) rfl rfl ?_
      refine q_imul hJ dX11_rowOf_23 (q := 24) rfl ?_
      refine q_iadd hJ dX11_rowOf_24 (q := 25) rfl ?_
      refine q_iald hJ dX11_rowOf_25 (q := 26) rfl (by first | exact ka317 | exact ka318 | exact ka319 | exact ka320 | exact ka321 | exact ka322) (ixE (j := p + 1 + 4 * j) (by ((try simp only [nIl_add, nI_mul, nIl_0, nIl_1, nIl_2, nIl_3, nIl_4, nIl_5, nIl_6, nIl_7, nIl_8, nIl_9, nIl_10, nIl_11, nIl_12, nIl_20, nIl_60, nIl_72, nIl_80, nIl_81, nIl_82, nIl_99, nIl_100, nIl_226, nIl_227, nIl_228, nIl_229, nIl_230, nIl_231, nIl_232, nIl_233, nIl_413, nIl_1239, nIl_10000]) <;> first | done | rfl | exact congrArg nI (by omega))) (by omega) (by decide)) rfl ?_
      refine q_iload_n hJ dX11_rowOf_26 (q := 27) rfl rfl ?_
      refine q_icmp_ne hJ (tgt := 38) dX11_rowOf_27 (q := 30) rfl (by decide) (fun c6 => ?_) (fun c6 => ?_)
      · refine q_iinc hJ dX11_rowOf_38 (q := 41) rfl (by decide) rfl (nI_1 j) ?_
        refine q_goto hJ (tgt := 2) dX11_rowOf_41 (by decide) ?_
        exact ih (j + 1) (by omega) (by rw [hf, fndF, if_neg c6])
      · refine q_iload_n hJ dX11_rowOf_30 (q := 31) rfl rfl ?_
        refine q_iconst hJ (v := 1) dX11_rowOf_31 (q := 32) rfl (by decide) ?_
        refine q_iadd hJ dX11_rowOf_32 (q := 33) rfl ?_
        refine q_iconst hJ (v := 4) dX11_rowOf_33 (q := 34) rfl (by decide) ?_
        refine q_iload_n hJ dX11_rowOf_34 (q := 35) rfl rfl ?_
        refine q_imul hJ dX11_rowOf_35 (q := 36) rfl ?_
        refine q_iadd hJ dX11_rowOf_36 (q := 37) rfl ?_
        refine q_iret hM dX11_rowOf_37 rfl rfl ?_
        exact ⟨by rw [hf, fndF, if_pos c6]; show _ = some (Value.int (nI (p + 1 + 4 * j))); congr 2; ((try simp only [nIl_add, nI_mul, nIl_0, nIl_1, nIl_2, nIl_3, nIl_4, nIl_5, nIl_6, nIl_7, nIl_8, nIl_9, nIl_10, nIl_11, nIl_12, nIl_20, nIl_60, nIl_72, nIl_80, nIl_81, nIl_82, nIl_99, nIl_100, nIl_226, nIl_227, nIl_228, nIl_229, nIl_230, nIl_231, nIl_232, nIl_233, nIl_413, nIl_1239, nIl_10000]) <;> first | done | rfl | exact congrArg nI (by omega)), rfl, rfl, rfl⟩
  refine q_iconst hJ (v := 0) dX11_rowOf_0 (q := 1) rfl (by decide) ?_
  refine q_istore_n hJ dX11_rowOf_1 (q := 2) rfl (by decide) ?_
  exact loop n 0 (Nat.add_zero _) rfl

set_option maxRecDepth 100000 in
set_option maxHeartbeats 400000 in
theorem M_isOf (p r : Nat) (hp : p ≤ 413) (hr : r < 12) (e m : Int32) (I : MI) (R : MR) (hFR : FR R) : Sp 1 0 0 mX11_isOf [.ref 317, .int (nI p), .int (nI r), .int e, .int m] g0 I R (Mv (if I 318 (p + 82 + 12 * r + 0) = e ∧ I 318 (p + 82 + 12 * r + 1) = m then 1 else 0) I R) := by
  have hm0 := hFR.2.2.2.2.2.1
  have hm1 := hFR.2.2.2.2.2.2.1
  have hm3 := hFR.2.2.2.2.2.2.2.1
  have hm5 := hFR.2.2.2.2.2.2.2.2.1
  have hm7 := hFR.2.2.2.2.2.2.2.2.2
  refine Sp.on (by decide +kernel) rfl rfl (fun J hM => ?_)
  have hJ := hM.ok
  refine q_iload_n hJ dX11_isOf_0 (q := 1) rfl rfl ?_
  refine q_iload_n hJ dX11_isOf_1 (q := 2) rfl rfl ?_
  refine q_callS hJ dX11_isOf_2 (q := 5) rfl (M_ruleAt p r I R) imX11_ruleAt ln_X11_40 rfl rfl rfl (Nat.le_of_ble_eq_true rfl) (by decide) (by decide) rfl rfl (fun rv gv Iv Rv hv => ?_)
  obtain ⟨rfl, rfl, rfl, rfl⟩ := hv
  refine q_istore hJ dX11_isOf_5 (q := 7) rfl (by decide) ?_
  refine q_aload_n hJ dX11_isOf_7 (q := 8) rfl rfl (by first | rfl | exact isR_rr _) ?_
  refine q_getR hJ dX11_isOf_8 (q := 11) rfl fl_X11_7 rfl (by first | exact ka317 | exact ka318 | exact ka319 | exact ka320 | exact ka321 | exact ka322) (by assumption) rfl ?_
  refine q_iload hJ dX11_isOf_11 (q := 13) rfl rfl ?_
  refine q_iconst hJ (v := 0) dX11_isOf_13 (q := 14) rfl (by decide) ?_
  refine q_iadd hJ dX11_isOf_14 (q := 15) rfl ?_
  refine q_iald hJ dX11_isOf_15 (q := 16) rfl (by first | exact ka317 | exact ka318 | exact ka319 | exact ka320 | exact ka321 | exact ka322) (ixE (j := p + 82 + 12 * r + 0) (by ((try simp only [nIl_add, nI_mul, nIl_0, nIl_1, nIl_2, nIl_3, nIl_4, nIl_5, nIl_6, nIl_7, nIl_8, nIl_9, nIl_10, nIl_11, nIl_12, nIl_20, nIl_60, nIl_72, nIl_80, nIl_81, nIl_82, nIl_99, nIl_100, nIl_226, nIl_227, nIl_228, nIl_229, nIl_230, nIl_231, nIl_232, nIl_233, nIl_413, nIl_1239, nIl_10000]) <;> first | done | rfl | exact congrArg nI (by omega))) (by omega) (by decide)) rfl ?_
  refine q_iload_n hJ dX11_isOf_16 (q := 17) rfl rfl ?_
  refine q_icmp_ne hJ (tgt := 38) dX11_isOf_17 (q := 20) rfl (by decide) (fun c1 => ?_) (fun c1 => ?_)
  · refine q_iconst hJ (v := 0) dX11_isOf_38 (q := 39) rfl (by decide) ?_
    refine q_iret hM dX11_isOf_39 rfl (by (first | decide | assumption)) ?_
    first
      | exact ⟨by rw [if_neg (fun z => c1 z.1)], rfl, rfl, rfl⟩
      | exact ⟨by rw [if_neg (fun z => c2 z.2)], rfl, rfl, rfl⟩
      | exact ⟨by rw [if_pos ⟨c1, c2⟩], rfl, rfl, rfl⟩
  · refine q_aload_n hJ dX11_isOf_20 (q := 21) rfl rfl (by first | rfl | exact isR_rr _) ?_
    refine q_getR hJ dX11_isOf_21 (q := 24) rfl fl_X11_7 rfl (by first | exact ka317 | exact ka318 | exact ka319 | exact ka320 | exact ka321 | exact ka322) (by assumption) rfl ?_
    refine q_iload hJ dX11_isOf_24 (q := 26) rfl rfl ?_
    refine q_iconst hJ (v := 1) dX11_isOf_26 (q := 27) rfl (by decide) ?_
    refine q_iadd hJ dX11_isOf_27 (q := 28) rfl ?_
    refine q_iald hJ dX11_isOf_28 (q := 29) rfl (by first | exact ka317 | exact ka318 | exact ka319 | exact ka320 | exact ka321 | exact ka322) (ixE (j := p + 82 + 12 * r + 1) (by ((try simp only [nIl_add, nI_mul, nIl_0, nIl_1, nIl_2, nIl_3, nIl_4, nIl_5, nIl_6, nIl_7, nIl_8, nIl_9, nIl_10, nIl_11, nIl_12, nIl_20, nIl_60, nIl_72, nIl_80, nIl_81, nIl_82, nIl_99, nIl_100, nIl_226, nIl_227, nIl_228, nIl_229, nIl_230, nIl_231, nIl_232, nIl_233, nIl_413, nIl_1239, nIl_10000]) <;> first | done | rfl | exact congrArg nI (by omega))) (by omega) (by decide)) rfl ?_
    refine q_iload hJ dX11_isOf_29 (q := 31) rfl rfl ?_
    refine q_icmp_ne hJ (tgt := 38) dX11_isOf_31 (q := 34) rfl (by decide) (fun c2 => ?_) (fun c2 => ?_)
    · refine q_iconst hJ (v := 0) dX11_isOf_38 (q := 39) rfl (by decide) ?_
      refine q_iret hM dX11_isOf_39 rfl (by (first | decide | assumption)) ?_
      first
        | exact ⟨by rw [if_neg (fun z => c1 z.1)], rfl, rfl, rfl⟩
        | exact ⟨by rw [if_neg (fun z => c2 z.2)], rfl, rfl, rfl⟩
        | exact ⟨by rw [if_pos ⟨c1, c2⟩], rfl, rfl, rfl⟩
    · refine q_iconst hJ (v := 1) dX11_isOf_34 (q := 35) rfl (by decide) ?_
      refine q_goto hJ (tgt := 39) dX11_isOf_35 (by decide) ?_
      refine q_iret hM dX11_isOf_39 rfl (by (first | decide | assumption)) ?_
      first
        | exact ⟨by rw [if_neg (fun z => c1 z.1)], rfl, rfl, rfl⟩
        | exact ⟨by rw [if_neg (fun z => c2 z.2)], rfl, rfl, rfl⟩
        | exact ⟨by rw [if_pos ⟨c1, c2⟩], rfl, rfl, rfl⟩

set_option maxRecDepth 100000 in
set_option maxHeartbeats 400000 in
theorem M_compares (v h n : Int32) (I : MI) (R : MR) : Sp 0 0 0 mX11_compares [.int v, .int h, .int n] g0 I R (Mv (cmpF h v n) I R) := by
  refine Sp.on (by decide +kernel) rfl rfl (fun J hM => ?_)
  have hJ := hM.ok
  refine q_iload_n hJ dX11_compares_0 (q := 1) rfl rfl ?_
  by_cases k_0 : h = 0
  · refine q_tswIn hJ (off := 35) (tgt := 36) dX11_compares_1 (by rw [k_0]; decide) (by rw [k_0]; decide) (by rw [k_0]; decide) (by decide) ?_
    refine q_iload_n hJ dX11_compares_36 (q := 37) rfl rfl ?_
    refine q_iload_n hJ dX11_compares_37 (q := 38) rfl rfl ?_
    refine q_icmp_ge hJ (tgt := 45) dX11_compares_38 (q := 41) rfl (by decide) (fun c1 => ?_) (fun c1 => ?_)
    · refine q_iconst hJ (v := 0) dX11_compares_45 (q := 46) rfl (by decide) ?_
      refine q_iret hM dX11_compares_46 rfl (by (first | decide | assumption)) ?_
      exact ⟨by simp [cmpF, *], rfl, rfl, rfl⟩
    · refine q_iconst hJ (v := 1) dX11_compares_41 (q := 42) rfl (by decide) ?_
      refine q_goto hJ (tgt := 46) dX11_compares_42 (by decide) ?_
      refine q_iret hM dX11_compares_46 rfl (by (first | decide | assumption)) ?_
      exact ⟨by simp [cmpF, *], rfl, rfl, rfl⟩
  by_cases k_1 : h = 1
  · refine q_tswIn hJ (off := 46) (tgt := 47) dX11_compares_1 (by rw [k_1]; decide) (by rw [k_1]; decide) (by rw [k_1]; decide) (by decide) ?_
    refine q_iload_n hJ dX11_compares_47 (q := 48) rfl rfl ?_
    refine q_iload_n hJ dX11_compares_48 (q := 49) rfl rfl ?_
    refine q_icmp_gt hJ (tgt := 56) dX11_compares_49 (q := 52) rfl (by decide) (fun c2 => ?_) (fun c2 => ?_)
    · refine q_iconst hJ (v := 0) dX11_compares_56 (q := 57) rfl (by decide) ?_
      refine q_iret hM dX11_compares_57 rfl (by (first | decide | assumption)) ?_
      exact ⟨by simp [cmpF, *], rfl, rfl, rfl⟩
    · refine q_iconst hJ (v := 1) dX11_compares_52 (q := 53) rfl (by decide) ?_
      refine q_goto hJ (tgt := 57) dX11_compares_53 (by decide) ?_
      refine q_iret hM dX11_compares_57 rfl (by (first | decide | assumption)) ?_
      exact ⟨by simp [cmpF, *], rfl, rfl, rfl⟩
  by_cases k_2 : h = 2
  · refine q_tswIn hJ (off := 57) (tgt := 58) dX11_compares_1 (by rw [k_2]; decide) (by rw [k_2]; decide) (by rw [k_2]; decide) (by decide) ?_
    refine q_iload_n hJ dX11_compares_58 (q := 59) rfl rfl ?_
    refine q_iload_n hJ dX11_compares_59 (q := 60) rfl rfl ?_
    refine q_icmp_ne hJ (tgt := 67) dX11_compares_60 (q := 63) rfl (by decide) (fun c3 => ?_) (fun c3 => ?_)
    · refine q_iconst hJ (v := 0) dX11_compares_67 (q := 68) rfl (by decide) ?_
      refine q_iret hM dX11_compares_68 rfl (by (first | decide | assumption)) ?_
      exact ⟨by simp [cmpF, *], rfl, rfl, rfl⟩
    · refine q_iconst hJ (v := 1) dX11_compares_63 (q := 64) rfl (by decide) ?_
      refine q_goto hJ (tgt := 68) dX11_compares_64 (by decide) ?_
      refine q_iret hM dX11_compares_68 rfl (by (first | decide | assumption)) ?_
      exact ⟨by simp [cmpF, *], rfl, rfl, rfl⟩
  by_cases k_3 : h = 3
  · refine q_tswIn hJ (off := 68) (tgt := 69) dX11_compares_1 (by rw [k_3]; decide) (by rw [k_3]; decide) (by rw [k_3]; decide) (by decide) ?_
    refine q_iload_n hJ dX11_compares_69 (q := 70) rfl rfl ?_
    refine q_iload_n hJ dX11_compares_70 (q := 71) rfl rfl ?_
    refine q_icmp_eq hJ (tgt := 78) dX11_compares_71 (q := 74) rfl (by decide) (fun c4 => ?_) (fun c4 => ?_)
    · refine q_iconst hJ (v := 0) dX11_compares_78 (q := 79) rfl (by decide) ?_
      refine q_iret hM dX11_compares_79 rfl (by (first | decide | assumption)) ?_
      exact ⟨by simp [cmpF, *], rfl, rfl, rfl⟩
    · refine q_iconst hJ (v := 1) dX11_compares_74 (q := 75) rfl (by decide) ?_
      refine q_goto hJ (tgt := 79) dX11_compares_75 (by decide) ?_
      refine q_iret hM dX11_compares_79 rfl (by (first | decide | assumption)) ?_
      exact ⟨by simp [cmpF, *], rfl, rfl, rfl⟩
  by_cases k_4 : h = 4
  · refine q_tswIn hJ (off := 79) (tgt := 80) dX11_compares_1 (by rw [k_4]; decide) (by rw [k_4]; decide) (by rw [k_4]; decide) (by decide) ?_
    refine q_iload_n hJ dX11_compares_80 (q := 81) rfl rfl ?_
    refine q_iload_n hJ dX11_compares_81 (q := 82) rfl rfl ?_
    refine q_icmp_lt hJ (tgt := 89) dX11_compares_82 (q := 85) rfl (by decide) (fun c5 => ?_) (fun c5 => ?_)
    · refine q_iconst hJ (v := 0) dX11_compares_89 (q := 90) rfl (by decide) ?_
      refine q_iret hM dX11_compares_90 rfl (by (first | decide | assumption)) ?_
      exact ⟨by simp [cmpF, *], rfl, rfl, rfl⟩
    · refine q_iconst hJ (v := 1) dX11_compares_85 (q := 86) rfl (by decide) ?_
      refine q_goto hJ (tgt := 90) dX11_compares_86 (by decide) ?_
      refine q_iret hM dX11_compares_90 rfl (by (first | decide | assumption)) ?_
      exact ⟨by simp [cmpF, *], rfl, rfl, rfl⟩
  refine q_tswOut hJ (tgt := 91) dX11_compares_1 (tsw_out5 k_0 k_1 k_2 k_3 k_4) (by decide) ?_
  refine q_iload_n hJ dX11_compares_91 (q := 92) rfl rfl ?_
  refine q_iload_n hJ dX11_compares_92 (q := 93) rfl rfl ?_
  refine q_icmp_le hJ (tgt := 100) dX11_compares_93 (q := 96) rfl (by decide) (fun c6 => ?_) (fun c6 => ?_)
  · refine q_iconst hJ (v := 0) dX11_compares_100 (q := 101) rfl (by decide) ?_
    refine q_iret hM dX11_compares_101 rfl (by (first | decide | assumption)) ?_
    exact ⟨by simp [cmpF, *], rfl, rfl, rfl⟩
  · refine q_iconst hJ (v := 1) dX11_compares_96 (q := 97) rfl (by decide) ?_
    refine q_goto hJ (tgt := 101) dX11_compares_97 (by decide) ?_
    refine q_iret hM dX11_compares_101 rfl (by (first | decide | assumption)) ?_
    exact ⟨by simp [cmpF, *], rfl, rfl, rfl⟩

def cpw (I : MI) (a x b y n : Nat) : MI := fun c j => if c = b ∧ y ≤ j ∧ j < y + n then I a (x + (j - y)) else I c j
theorem cpw_0 (I : MI) (a x b y : Nat) : cpw I a x b y 0 = I := by
  funext c j
  exact if_neg (fun z => by omega)
theorem cpw_step {I : MI} {a x b y n : Nat} : up2 (cpw I a x b y n) b (y + n) (I a (x + n)) = cpw I a x b y (n + 1) := by
  funext c j
  rw [up2_app]
  unfold cpw
  by_cases h : c = b ∧ j = y + n
  · rw [if_pos h, if_pos ⟨h.1, by omega, by omega⟩, h.2]; congr 1; omega
  · rw [if_neg h]
    by_cases h2 : c = b ∧ y ≤ j ∧ j < y + n
    · rw [if_pos h2, if_pos ⟨h2.1, h2.2.1, by omega⟩]
    · rw [if_neg h2, if_neg (fun z => by
        refine h2 ⟨z.1, z.2.1, ?_⟩
        have : ¬ j = y + n := fun e => h ⟨z.1, e⟩
        omega)]
theorem cpw_o {I : MI} {a x b y n c : Nat} (h : c ≠ b) : cpw I a x b y n c = I c := by
  funext j; exact if_neg (fun z => h z.1)
theorem cpw_out {I : MI} {a x b y n j : Nat} (h : j < y ∨ y + n ≤ j) : cpw I a x b y n b j = I b j := if_neg (fun z => by omega)
theorem cpw_in {I : MI} {a x b y n i : Nat} (h : i < n) : cpw I a x b y n b (y + i) = I a (x + i) := by
  unfold cpw
  rw [if_pos ⟨rfl, by omega, by omega⟩]
  congr 1; omega
set_option maxRecDepth 100000 in
set_option maxHeartbeats 400000 in
theorem M_copies (x y : Nat) (hxy : (x = 0 ∧ y = 413) ∨ (x = 413 ∧ y = 0)) (I : MI) (R : MR) (hFR : FR R) : Sp 0 0 0 mX11_copies [.ref 317, .int (nI x), .int (nI y)] g0 I R (Rt none g0 (cpw I 318 x 318 y 413) R) := by
  have hm0 := hFR.2.2.2.2.2.1
  have hm1 := hFR.2.2.2.2.2.2.1
  have hm3 := hFR.2.2.2.2.2.2.2.1
  have hm5 := hFR.2.2.2.2.2.2.2.2.1
  have hm7 := hFR.2.2.2.2.2.2.2.2.2
  refine Sp.on (by decide +kernel) rfl rfl (fun J hM => ?_)
  have hJ := hM.ok
  have loop : ∀ (k j : Nat), k + j = 413 → J 0 0 2 [some (.ref 317), some (.int (nI x)), some (.int (nI y)), some (.int (nI j))] [] g0 (cpw I 318 x 318 y j) R := by
    intro k
    induction k with
    | zero =>
      intro j hm
      refine q_iload_n hJ dX11_copies_2 (q := 3) rfl rfl ?_
      refine q_sipush hJ (v := 413) dX11_copies_3 (q := 6) rfl (by decide) ?_
      refine q_icmp_ge hJ (tgt := 31) dX11_copies_6 (q := 9) rfl (by decide) (fun _ => ?_) (fun c5 => absurd ((nI_leI (a := 413) (b := j) (by omega) (by omega)).mpr (by omega)) c5)
      refine q_vret hM dX11_copies_31 rfl ?_
      have ej : j = 413 := by omega
      subst ej
      exact ⟨rfl, rfl, rfl, rfl⟩
    | succ k ih =>
      intro j hm
      refine q_iload_n hJ dX11_copies_2 (q := 3) rfl rfl ?_
      refine q_sipush hJ (v := 413) dX11_copies_3 (q := 6) rfl (by decide) ?_
      refine q_icmp_ge hJ (tgt := 31) dX11_copies_6 (q := 9) rfl (by decide) (fun c5 => absurd ((nI_leI (a := 413) (b := j) (by omega) (by omega)).mp c5) (by omega)) (fun _ => ?_)
      refine q_aload_n hJ dX11_copies_9 (q := 10) rfl rfl (by first | rfl | exact isR_rr _) ?_
      refine q_getR hJ dX11_copies_10 (q := 13) rfl fl_X11_7 rfl (by first | exact ka317 | exact ka318 | exact ka319 | exact ka320 | exact ka321 | exact ka322) (by assumption) rfl ?_
      refine q_iload_n hJ dX11_copies_13 (q := 14) rfl rfl ?_
      refine q_iload_n hJ dX11_copies_14 (q := 15) rfl rfl ?_
      refine q_iadd hJ dX11_copies_15 (q := 16) rfl ?_
      refine q_aload_n hJ dX11_copies_16 (q := 17) rfl rfl (by first | rfl | exact isR_rr _) ?_
      refine q_getR hJ dX11_copies_17 (q := 20) rfl fl_X11_7 rfl (by first | exact ka317 | exact ka318 | exact ka319 | exact ka320 | exact ka321 | exact ka322) (by assumption) rfl ?_
      refine q_iload_n hJ dX11_copies_20 (q := 21) rfl rfl ?_
      refine q_iload_n hJ dX11_copies_21 (q := 22) rfl rfl ?_
      refine q_iadd hJ dX11_copies_22 (q := 23) rfl ?_
      refine q_iald hJ dX11_copies_23 (q := 24) rfl (by first | exact ka317 | exact ka318 | exact ka319 | exact ka320 | exact ka321 | exact ka322) (ixE (j := x + j) (by ((try simp only [nIl_add, nI_mul, nIl_0, nIl_1, nIl_2, nIl_3, nIl_4, nIl_5, nIl_6, nIl_7, nIl_8, nIl_9, nIl_10, nIl_11, nIl_12, nIl_20, nIl_60, nIl_72, nIl_80, nIl_81, nIl_82, nIl_99, nIl_100, nIl_226, nIl_227, nIl_228, nIl_229, nIl_230, nIl_231, nIl_232, nIl_233, nIl_413, nIl_1239, nIl_10000]) <;> first | done | rfl | exact congrArg nI (by omega))) (by omega) (by decide)) (show _ = I 318 (x + j) from cpw_out (by omega)) ?_
      refine q_iast hJ dX11_copies_24 (q := 25) rfl (by first | exact ka317 | exact ka318 | exact ka319 | exact ka320 | exact ka321 | exact ka322) (ixE (j := y + j) (by ((try simp only [nIl_add, nI_mul, nIl_0, nIl_1, nIl_2, nIl_3, nIl_4, nIl_5, nIl_6, nIl_7, nIl_8, nIl_9, nIl_10, nIl_11, nIl_12, nIl_20, nIl_60, nIl_72, nIl_80, nIl_81, nIl_82, nIl_99, nIl_100, nIl_226, nIl_227, nIl_228, nIl_229, nIl_230, nIl_231, nIl_232, nIl_233, nIl_413, nIl_1239, nIl_10000]) <;> first | done | rfl | exact congrArg nI (by omega))) (by omega) (by decide)) ?_
      refine q_iinc hJ dX11_copies_25 (q := 28) rfl (by decide) rfl (nI_1 j) ?_
      refine q_goto hJ (tgt := 2) dX11_copies_28 (by decide) ?_
      rw [cpw_step]
      exact ih (j + 1) (by omega)
  refine q_iconst hJ (v := 0) dX11_copies_0 (q := 1) rfl (by decide) ?_
  refine q_istore_n hJ dX11_copies_1 (q := 2) rfl (by decide) ?_
  have h0 := loop 413 0 rfl
  rw [cpw_0] at h0
  exact h0

