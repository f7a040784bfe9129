/-! THE MODEL: an operation begins, is carried out -/
def ntF (A : AS) (ev key : Int32) (a : Nat) (v : Int32) : Int32 := if ev = 0 then (if cantA A key = 0 then 1 else 0) else match fK A key with
  | none => 1
  | some i => if ev = 1 ∧ aK A i (1 + a) = v then 1 else 0
def bgP (A : AS) (ev : Int32) (img : Nat → Int32) (a : Nat) (v : Int32) : Option (Nat → Int32) := if ev = 0 then (if cantA A (img 0) = 0 then none else some img) else if ev = 1 then prUp A (img 0) (nI a) v else prDel A (img 0)
theorem rowF_n {i : Nat → Int32} {a : Nat} (h : a < 3) : rowF i (nI a) = i (1 + a) := by
  rcases (show a = 0 ∨ a = 1 ∨ a = 2 by omega) with rfl | rfl | rfl <;> rfl
theorem chgF_n {i : Nat → Int32} {a : Nat} {x : Int32} (h : a < 3) (t : Nat) : chgF i (nI a) x t = if t = 1 + a then x else i t := by
  rcases (show a = 0 ∨ a = 1 ∨ a = 2 by omega) with rfl | rfl | rfl <;> rfl
theorem nt_none {A : AS} {ev : Int32} {img : Nat → Int32} {a : Nat} {v : Int32} (ha : a < 3) (he : ev = 0 ∨ ev = 1 ∨ ev = 2) : bgP A ev img a v = none ↔ ntF A ev (img 0) a v = 1 := by
  unfold bgP ntF prUp prDel
  rcases he with rfl | rfl | rfl
  · rw [if_pos rfl, if_pos rfl]
    by_cases c : cantA A (img 0) = 0
    · simp [c]
    · simp [c]
  · rw [if_neg (by decide), if_pos rfl, if_neg (by decide)]
    rcases fK A (img 0) with _ | i
    · simp
    · simp only [rowF_n ha]
      by_cases c : aK A i (1 + a) = v
      · simp [c]
      · simp [c]
  · rw [if_neg (by decide), if_neg (by decide), if_neg (by decide)]
    rcases fK A (img 0) with _ | i
    · simp
    · simp
theorem nt_01 (A : AS) (ev key : Int32) (a : Nat) (v : Int32) : ntF A ev key a v = 0 ∨ ntF A ev key a v = 1 := by
  unfold ntF
  split
  · split <;> simp
  · split
    · simp
    · split <;> simp
theorem nI20 {n : Nat} (h : n ≤ 20) : nI n = 20 ↔ ¬ n < 20 := by
  rw [show (20 : Int32) = nI 20 from rfl, nI_eq (by omega) (by decide)]; omega
set_option maxRecDepth 100000 in
set_option maxHeartbeats 400000 in
theorem M_isNothing (p d a : Nat) (hp : p ≤ 413) (hd : d < 9) (ha : a < 3) (ev key v : Int32) (A : AS) (I : MI) (R : MR) (hFR : FR R) (hR : RowQ (I 318) p (aK A) (aN A)) (ok : okK (aK A) (aN A)) (hE : ev = 0 ∨ ev = 1 ∨ ev = 2) (hev : I 322 (8 * d + 0) = ev) (hk : I 322 (8 * d + 1) = key) : Sp 2 0 0 mX11_isNothing [.ref 317, .int (nI p), .int (nI d), .int (nI a), .int v] g0 I R (Mv (ntF A ev key a v) I R) := by
  have hm0 := hFR.2.2.2.2.2.1
  have hm1 := hFR.2.2.2.2.2.2.1
  have hm3 := hFR.2.2.2.2.2.2.2.1
  have hm5 := hFR.2.2.2.2.2.2.2.2.1
  have hm7 := hFR.2.2.2.2.2.2.2.2.2
  have hn20 := nI20 hR.2.1
  refine Sp.on (by decide +kernel) rfl rfl (fun J hM => ?_)
  have hJ := hM.ok
  rcases hf : fK A key with _ | i
  · skip
    rcases hE with rfl | rfl | rfl
    · refine q_aload_n hJ dX11_isNothing_0 (q := 1) rfl rfl (by first | rfl | exact isR_rr _) ?_
      refine q_getR hJ dX11_isNothing_1 (q := 4) rfl fl_X11_22 rfl (by first | exact ka317 | exact ka318 | exact ka319 | exact ka320 | exact ka321 | exact ka322) (by assumption) rfl ?_
      refine q_bipush hJ (v := 8) dX11_isNothing_4 (q := 6) rfl (by decide) ?_
      refine q_iload_n hJ dX11_isNothing_6 (q := 7) rfl rfl ?_
      refine q_imul hJ dX11_isNothing_7 (q := 8) rfl ?_
      refine q_iconst hJ (v := 1) dX11_isNothing_8 (q := 9) rfl (by decide) ?_
      refine q_iadd hJ dX11_isNothing_9 (q := 10) rfl ?_
      refine q_iald hJ dX11_isNothing_10 (q := 11) rfl (by first | exact ka317 | exact ka318 | exact ka319 | exact ka320 | exact ka321 | exact ka322) (ixE (j := 8 * d + 1) (by ((try simp only [nIl_add, nI_mul, nIl_0, nIl_1, nIl_2, nIl_3, nIl_4, nIl_5, nIl_6, nIl_7, nIl_8, nIl_9, nIl_10, nIl_11, nIl_12, nIl_20, nIl_60, nIl_72, nIl_80, nIl_81, nIl_82, nIl_99, nIl_100, nIl_226, nIl_227, nIl_228, nIl_229, nIl_230, nIl_231, nIl_232, nIl_233, nIl_413, nIl_1239, nIl_10000]) <;> first | done | rfl | exact congrArg nI (by omega))) (by omega) (by decide)) hk ?_
      refine q_istore hJ dX11_isNothing_11 (q := 13) rfl (by decide) ?_
      refine q_aload_n hJ dX11_isNothing_13 (q := 14) rfl rfl (by first | rfl | exact isR_rr _) ?_
      refine q_iload_n hJ dX11_isNothing_14 (q := 15) rfl rfl ?_
      refine q_iload hJ dX11_isNothing_15 (q := 17) rfl rfl ?_
      refine q_callV hJ dX11_isNothing_17 (q := 20) rfl (M_rowOf I R p (aN A) key hp hR.1 hR.2.1 hFR) imX11_rowOf ln_X11_54 (by first | exact ka317 | exact ka318 | exact ka319 | exact ka320 | exact ka321 | exact ka322) (by decide) rfl rfl rfl rfl (Nat.le_of_ble_eq_true rfl) (by decide) (by decide) rfl rfl (fun rv gv Iv Rv hv => ?_)
      obtain ⟨rfl, rfl, rfl, rfl⟩ := hv
      rw [hR.none hf, show rwI p none = -1 from rfl]
      refine q_istore hJ dX11_isNothing_20 (q := 22) rfl (by decide) ?_
      refine q_aload_n hJ dX11_isNothing_22 (q := 23) rfl rfl (by first | rfl | exact isR_rr _) ?_
      refine q_getR hJ dX11_isNothing_23 (q := 26) rfl fl_X11_22 rfl (by first | exact ka317 | exact ka318 | exact ka319 | exact ka320 | exact ka321 | exact ka322) (by assumption) rfl ?_
      refine q_bipush hJ (v := 8) dX11_isNothing_26 (q := 28) rfl (by decide) ?_
      refine q_iload_n hJ dX11_isNothing_28 (q := 29) rfl rfl ?_
      refine q_imul hJ dX11_isNothing_29 (q := 30) rfl ?_
      refine q_iconst hJ (v := 0) dX11_isNothing_30 (q := 31) rfl (by decide) ?_
      refine q_iadd hJ dX11_isNothing_31 (q := 32) rfl ?_
      refine q_iald hJ dX11_isNothing_32 (q := 33) rfl (by first | exact ka317 | exact ka318 | exact ka319 | exact ka320 | exact ka321 | exact ka322) (ixE (j := 8 * d + 0) (by ((try simp only [nIl_add, nI_mul, nIl_0, nIl_1, nIl_2, nIl_3, nIl_4, nIl_5, nIl_6, nIl_7, nIl_8, nIl_9, nIl_10, nIl_11, nIl_12, nIl_20, nIl_60, nIl_72, nIl_80, nIl_81, nIl_82, nIl_99, nIl_100, nIl_226, nIl_227, nIl_228, nIl_229, nIl_230, nIl_231, nIl_232, nIl_233, nIl_413, nIl_1239, nIl_10000]) <;> first | done | rfl | exact congrArg nI (by omega))) (by omega) (by decide)) hev ?_
      refine q_if_ne hJ (tgt := 68) dX11_isNothing_33 (q := 36) rfl (by decide) (fun c1 => absurd rfl c1) (fun _ => ?_)
      refine q_iload hJ dX11_isNothing_36 (q := 38) rfl rfl ?_
      refine q_callS hJ dX11_isNothing_38 (q := 41) rfl (M_isKey key I R) imX11_isKey ln_X11_57 rfl rfl rfl (Nat.le_of_ble_eq_true rfl) (by decide) (by decide) rfl rfl (fun rv gv Iv Rv hv => ?_)
      obtain ⟨rfl, rfl, rfl, rfl⟩ := hv
      refine q_if_eq hJ (tgt := 62) dX11_isNothing_41 (q := 44) rfl (by decide) (fun c2 => ?_) (fun c2 => ?_)
      · refine q_iconst hJ (v := 1) dX11_isNothing_62 (q := 63) rfl (by decide) ?_
        refine q_goto hJ (tgt := 67) dX11_isNothing_63 (by decide) ?_
        refine q_iret hM dX11_isNothing_67 rfl (by (first | decide | assumption)) ?_
        exact ⟨by simp [ntF, cantA, hf, hn20, *] <;> first | exact Decidable.byContradiction (fun z => c4 (hn20.mpr z)) | exact Nat.not_lt.mp (hn20.mp c4), rfl, rfl, rfl⟩
      · refine q_iload hJ dX11_isNothing_44 (q := 46) rfl rfl ?_
        refine q_if_ge hJ (tgt := 62) dX11_isNothing_46 (q := 49) rfl (by decide) (fun c3 => absurd c3 (by decide)) (fun _ => ?_)
        refine q_aload_n hJ dX11_isNothing_49 (q := 50) rfl rfl (by first | rfl | exact isR_rr _) ?_
        refine q_getR hJ dX11_isNothing_50 (q := 53) rfl fl_X11_7 rfl (by first | exact ka317 | exact ka318 | exact ka319 | exact ka320 | exact ka321 | exact ka322) (by assumption) rfl ?_
        refine q_iload_n hJ dX11_isNothing_53 (q := 54) rfl rfl ?_
        refine q_iconst hJ (v := 0) dX11_isNothing_54 (q := 55) rfl (by decide) ?_
        refine q_iadd hJ dX11_isNothing_55 (q := 56) rfl ?_
        refine q_iald hJ dX11_isNothing_56 (q := 57) rfl (by first | exact ka317 | exact ka318 | exact ka319 | exact ka320 | exact ka321 | exact ka322) (ixE (j := p + 0) (by ((try simp only [nIl_add, nI_mul, nIl_0, nIl_1, nIl_2, nIl_3, nIl_4, nIl_5, nIl_6, nIl_7, nIl_8, nIl_9, nIl_10, nIl_11, nIl_12, nIl_20, nIl_60, nIl_72, nIl_80, nIl_81, nIl_82, nIl_99, nIl_100, nIl_226, nIl_227, nIl_228, nIl_229, nIl_230, nIl_231, nIl_232, nIl_233, nIl_413, nIl_1239, nIl_10000]) <;> first | done | rfl | exact congrArg nI (by omega))) (by omega) (by decide)) hR.1 ?_
        refine q_bipush hJ (v := 20) dX11_isNothing_57 (q := 59) rfl (by decide) ?_
        refine q_icmp_ne hJ (tgt := 66) dX11_isNothing_59 (q := 62) rfl (by decide) (fun c4 => ?_) (fun c4 => ?_)
        · refine q_iconst hJ (v := 0) dX11_isNothing_66 (q := 67) rfl (by decide) ?_
          refine q_iret hM dX11_isNothing_67 rfl (by (first | decide | assumption)) ?_
          exact ⟨by simp [ntF, cantA, hf, hn20, *] <;> first | exact Decidable.byContradiction (fun z => c4 (hn20.mpr z)) | exact Nat.not_lt.mp (hn20.mp c4), rfl, rfl, rfl⟩
        · refine q_iconst hJ (v := 1) dX11_isNothing_62 (q := 63) rfl (by decide) ?_
          refine q_goto hJ (tgt := 67) dX11_isNothing_63 (by decide) ?_
          refine q_iret hM dX11_isNothing_67 rfl (by (first | decide | assumption)) ?_
          exact ⟨by simp [ntF, cantA, hf, hn20, *] <;> first | exact Decidable.byContradiction (fun z => c4 (hn20.mpr z)) | exact Nat.not_lt.mp (hn20.mp c4), rfl, rfl, rfl⟩
    · refine q_aload_n hJ dX11_isNothing_0 (q := 1) rfl rfl (by first | rfl | exact isR_rr _) ?_
      refine q_getR hJ dX11_isNothing_1 (q := 4) rfl fl_X11_22 rfl (by first | exact ka317 | exact ka318 | exact ka319 | exact ka320 | exact ka321 | exact ka322) (by assumption) rfl ?_
      refine q_bipush hJ (v := 8) dX11_isNothing_4 (q := 6) rfl (by decide) ?_
      refine q_iload_n hJ dX11_isNothing_6 (q := 7) rfl rfl ?_
      refine q_imul hJ dX11_isNothing_7 (q := 8) rfl ?_
      refine q_iconst hJ (v := 1) dX11_isNothing_8 (q := 9) rfl (by decide) ?_
      refine q_iadd hJ dX11_isNothing_9 (q := 10) rfl ?_
      refine q_iald hJ dX11_isNothing_10 (q := 11) rfl (by first | exact ka317 | exact ka318 | exact ka319 | exact ka320 | exact ka321 | exact ka322) (ixE (j := 8 * d + 1) (by ((try simp only [nIl_add, nI_mul, nIl_0, nIl_1, nIl_2, nIl_3, nIl_4, nIl_5, nIl_6, nIl_7, nIl_8, nIl_9, nIl_10, nIl_11, nIl_12, nIl_20, nIl_60, nIl_72, nIl_80, nIl_81, nIl_82, nIl_99, nIl_100, nIl_226, nIl_227, nIl_228, nIl_229, nIl_230, nIl_231, nIl_232, nIl_233, nIl_413, nIl_1239, nIl_10000]) <;> first | done | rfl | exact congrArg nI (by omega))) (by omega) (by decide)) hk ?_
      refine q_istore hJ dX11_isNothing_11 (q := 13) rfl (by decide) ?_
      refine q_aload_n hJ dX11_isNothing_13 (q := 14) rfl rfl (by first | rfl | exact isR_rr _) ?_
      refine q_iload_n hJ dX11_isNothing_14 (q := 15) rfl rfl ?_
      refine q_iload hJ dX11_isNothing_15 (q := 17) rfl rfl ?_
      refine q_callV hJ dX11_isNothing_17 (q := 20) rfl (M_rowOf I R p (aN A) key hp hR.1 hR.2.1 hFR) imX11_rowOf ln_X11_54 (by first | exact ka317 | exact ka318 | exact ka319 | exact ka320 | exact ka321 | exact ka322) (by decide) rfl rfl rfl rfl (Nat.le_of_ble_eq_true rfl) (by decide) (by decide) rfl rfl (fun rv gv Iv Rv hv => ?_)
      obtain ⟨rfl, rfl, rfl, rfl⟩ := hv
      rw [hR.none hf, show rwI p none = -1 from rfl]
      refine q_istore hJ dX11_isNothing_20 (q := 22) rfl (by decide) ?_
      refine q_aload_n hJ dX11_isNothing_22 (q := 23) rfl rfl (by first | rfl | exact isR_rr _) ?_
      refine q_getR hJ dX11_isNothing_23 (q := 26) rfl fl_X11_22 rfl (by first | exact ka317 | exact ka318 | exact ka319 | exact ka320 | exact ka321 | exact ka322) (by assumption) rfl ?_
      refine q_bipush hJ (v := 8) dX11_isNothing_26 (q := 28) rfl (by decide) ?_
      refine q_iload_n hJ dX11_isNothing_28 (q := 29) rfl rfl ?_
      refine q_imul hJ dX11_isNothing_29 (q := 30) rfl ?_
      refine q_iconst hJ (v := 0) dX11_isNothing_30 (q := 31) rfl (by decide) ?_
      refine q_iadd hJ dX11_isNothing_31 (q := 32) rfl ?_
      refine q_iald hJ dX11_isNothing_32 (q := 33) rfl (by first | exact ka317 | exact ka318 | exact ka319 | exact ka320 | exact ka321 | exact ka322) (ixE (j := 8 * d + 0) (by ((try simp only [nIl_add, nI_mul, nIl_0, nIl_1, nIl_2, nIl_3, nIl_4, nIl_5, nIl_6, nIl_7, nIl_8, nIl_9, nIl_10, nIl_11, nIl_12, nIl_20, nIl_60, nIl_72, nIl_80, nIl_81, nIl_82, nIl_99, nIl_100, nIl_226, nIl_227, nIl_228, nIl_229, nIl_230, nIl_231, nIl_232, nIl_233, nIl_413, nIl_1239, nIl_10000]) <;> first | done | rfl | exact congrArg nI (by omega))) (by omega) (by decide)) hev ?_
      refine q_if_ne hJ (tgt := 68) dX11_isNothing_33 (q := 36) rfl (by decide) (fun _ => ?_) (fun c1 => absurd c1 (by decide))
      refine q_iload hJ dX11_isNothing_68 (q := 70) rfl rfl ?_
      refine q_if_lt hJ (tgt := 104) dX11_isNothing_70 (q := 73) rfl (by decide) (fun _ => ?_) (fun c5 => absurd (by decide) c5)
      refine q_iconst hJ (v := 1) dX11_isNothing_104 (q := 105) rfl (by decide) ?_
      refine q_goto hJ (tgt := 109) dX11_isNothing_105 (by decide) ?_
      refine q_iret hM dX11_isNothing_109 rfl (by (first | decide | assumption)) ?_
      exact ⟨by simp [ntF, cantA, hf, hn20, *] <;> first | exact Decidable.byContradiction (fun z => c4 (hn20.mpr z)) | exact Nat.not_lt.mp (hn20.mp c4), rfl, rfl, rfl⟩
    · refine q_aload_n hJ dX11_isNothing_0 (q := 1) rfl rfl (by first | rfl | exact isR_rr _) ?_
      refine q_getR hJ dX11_isNothing_1 (q := 4) rfl fl_X11_22 rfl (by first | exact ka317 | exact ka318 | exact ka319 | exact ka320 | exact ka321 | exact ka322) (by assumption) rfl ?_
      refine q_bipush hJ (v := 8) dX11_isNothing_4 (q := 6) rfl (by decide) ?_
      refine q_iload_n hJ dX11_isNothing_6 (q := 7) rfl rfl ?_
      refine q_imul hJ dX11_isNothing_7 (q := 8) rfl ?_
      refine q_iconst hJ (v := 1) dX11_isNothing_8 (q := 9) rfl (by decide) ?_
      refine q_iadd hJ dX11_isNothing_9 (q := 10) rfl ?_
      refine q_iald hJ dX11_isNothing_10 (q := 11) rfl (by first | exact ka317 | exact ka318 | exact ka319 | exact ka320 | exact ka321 | exact ka322) (ixE (j := 8 * d + 1) (by ((try simp only [nIl_add, nI_mul, nIl_0, nIl_1, nIl_2, nIl_3, nIl_4, nIl_5, nIl_6, nIl_7, nIl_8, nIl_9, nIl_10, nIl_11, nIl_12, nIl_20, nIl_60, nIl_72, nIl_80, nIl_81, nIl_82, nIl_99, nIl_100, nIl_226, nIl_227, nIl_228, nIl_229, nIl_230, nIl_231, nIl_232, nIl_233, nIl_413, nIl_1239, nIl_10000]) <;> first | done | rfl | exact congrArg nI (by omega))) (by omega) (by decide)) hk ?_
      refine q_istore hJ dX11_isNothing_11 (q := 13) rfl (by decide) ?_
      refine q_aload_n hJ dX11_isNothing_13 (q := 14) rfl rfl (by first | rfl | exact isR_rr _) ?_
      refine q_iload_n hJ dX11_isNothing_14 (q := 15) rfl rfl ?_
      refine q_iload hJ dX11_isNothing_15 (q := 17) rfl rfl ?_
      refine q_callV hJ dX11_isNothing_17 (q := 20) rfl (M_rowOf I R p (aN A) key hp hR.1 hR.2.1 hFR) imX11_rowOf ln_X11_54 (by first | exact ka317 | exact ka318 | exact ka319 | exact ka320 | exact ka321 | exact ka322) (by decide) rfl rfl rfl rfl (Nat.le_of_ble_eq_true rfl) (by decide) (by decide) rfl rfl (fun rv gv Iv Rv hv => ?_)
      obtain ⟨rfl, rfl, rfl, rfl⟩ := hv
      rw [hR.none hf, show rwI p none = -1 from rfl]
      refine q_istore hJ dX11_isNothing_20 (q := 22) rfl (by decide) ?_
      refine q_aload_n hJ dX11_isNothing_22 (q := 23) rfl rfl (by first | rfl | exact isR_rr _) ?_
      refine q_getR hJ dX11_isNothing_23 (q := 26) rfl fl_X11_22 rfl (by first | exact ka317 | exact ka318 | exact ka319 | exact ka320 | exact ka321 | exact ka322) (by assumption) rfl ?_
      refine q_bipush hJ (v := 8) dX11_isNothing_26 (q := 28) rfl (by decide) ?_
      refine q_iload_n hJ dX11_isNothing_28 (q := 29) rfl rfl ?_
      refine q_imul hJ dX11_isNothing_29 (q := 30) rfl ?_
      refine q_iconst hJ (v := 0) dX11_isNothing_30 (q := 31) rfl (by decide) ?_
      refine q_iadd hJ dX11_isNothing_31 (q := 32) rfl ?_
      refine q_iald hJ dX11_isNothing_32 (q := 33) rfl (by first | exact ka317 | exact ka318 | exact ka319 | exact ka320 | exact ka321 | exact ka322) (ixE (j := 8 * d + 0) (by ((try simp only [nIl_add, nI_mul, nIl_0, nIl_1, nIl_2, nIl_3, nIl_4, nIl_5, nIl_6, nIl_7, nIl_8, nIl_9, nIl_10, nIl_11, nIl_12, nIl_20, nIl_60, nIl_72, nIl_80, nIl_81, nIl_82, nIl_99, nIl_100, nIl_226, nIl_227, nIl_228, nIl_229, nIl_230, nIl_231, nIl_232, nIl_233, nIl_413, nIl_1239, nIl_10000]) <;> first | done | rfl | exact congrArg nI (by omega))) (by omega) (by decide)) hev ?_
      refine q_if_ne hJ (tgt := 68) dX11_isNothing_33 (q := 36) rfl (by decide) (fun _ => ?_) (fun c1 => absurd c1 (by decide))
      refine q_iload hJ dX11_isNothing_68 (q := 70) rfl rfl ?_
      refine q_if_lt hJ (tgt := 104) dX11_isNothing_70 (q := 73) rfl (by decide) (fun _ => ?_) (fun c5 => absurd (by decide) c5)
      refine q_iconst hJ (v := 1) dX11_isNothing_104 (q := 105) rfl (by decide) ?_
      refine q_goto hJ (tgt := 109) dX11_isNothing_105 (by decide) ?_
      refine q_iret hM dX11_isNothing_109 rfl (by (first | decide | assumption)) ?_
      exact ⟨by simp [ntF, cantA, hf, hn20, *] <;> first | exact Decidable.byContradiction (fun z => c4 (hn20.mpr z)) | exact Nat.not_lt.mp (hn20.mp c4), rfl, rfl, rfl⟩
  · obtain ⟨j, hj, hm, he⟩ := hR.some ok hf
    have hj20 := hR.2.1
    rcases hE with rfl | rfl | rfl
    · refine q_aload_n hJ dX11_isNothing_0 (q := 1) rfl rfl (by first | rfl | exact isR_rr _) ?_
      refine q_getR hJ dX11_isNothing_1 (q := 4) rfl fl_X11_22 rfl (by first | exact ka317 | exact ka318 | exact ka319 | exact ka320 | exact ka321 | exact ka322) (by assumption) rfl ?_
      refine q_bipush hJ (v := 8) dX11_isNothing_4 (q := 6) rfl (by decide) ?_
      refine q_iload_n hJ dX11_isNothing_6 (q := 7) rfl rfl ?_
      refine q_imul hJ dX11_isNothing_7 (q := 8) rfl ?_
      refine q_iconst hJ (v := 1) dX11_isNothing_8 (q := 9) rfl (by decide) ?_
      refine q_iadd hJ dX11_isNothing_9 (q := 10) rfl ?_
      refine q_iald hJ dX11_isNothing_10 (q := 11) rfl (by first | exact ka317 | exact ka318 | exact ka319 | exact ka320 | exact ka321 | exact ka322) (ixE (j := 8 * d + 1) (by ((try simp only [nIl_add, nI_mul, nIl_0, nIl_1, nIl_2, nIl_3, nIl_4, nIl_5, nIl_6, nIl_7, nIl_8, nIl_9, nIl_10, nIl_11, nIl_12, nIl_20, nIl_60, nIl_72, nIl_80, nIl_81, nIl_82, nIl_99, nIl_100, nIl_226, nIl_227, nIl_228, nIl_229, nIl_230, nIl_231, nIl_232, nIl_233, nIl_413, nIl_1239, nIl_10000]) <;> first | done | rfl | exact congrArg nI (by omega))) (by omega) (by decide)) hk ?_
      refine q_istore hJ dX11_isNothing_11 (q := 13) rfl (by decide) ?_
      refine q_aload_n hJ dX11_isNothing_13 (q := 14) rfl rfl (by first | rfl | exact isR_rr _) ?_
      refine q_iload_n hJ dX11_isNothing_14 (q := 15) rfl rfl ?_
      refine q_iload hJ dX11_isNothing_15 (q := 17) rfl rfl ?_
      refine q_callV hJ dX11_isNothing_17 (q := 20) rfl (M_rowOf I R p (aN A) key hp hR.1 hR.2.1 hFR) imX11_rowOf ln_X11_54 (by first | exact ka317 | exact ka318 | exact ka319 | exact ka320 | exact ka321 | exact ka322) (by decide) rfl rfl rfl rfl (Nat.le_of_ble_eq_true rfl) (by decide) (by decide) rfl rfl (fun rv gv Iv Rv hv => ?_)
      obtain ⟨rfl, rfl, rfl, rfl⟩ := hv
      rw [hm, show rwI p (some j) = nI (p + 1 + 4 * j) from rfl]
      refine q_istore hJ dX11_isNothing_20 (q := 22) rfl (by decide) ?_
      refine q_aload_n hJ dX11_isNothing_22 (q := 23) rfl rfl (by first | rfl | exact isR_rr _) ?_
      refine q_getR hJ dX11_isNothing_23 (q := 26) rfl fl_X11_22 rfl (by first | exact ka317 | exact ka318 | exact ka319 | exact ka320 | exact ka321 | exact ka322) (by assumption) rfl ?_
      refine q_bipush hJ (v := 8) dX11_isNothing_26 (q := 28) rfl (by decide) ?_
      refine q_iload_n hJ dX11_isNothing_28 (q := 29) rfl rfl ?_
      refine q_imul hJ dX11_isNothing_29 (q := 30) rfl ?_
      refine q_iconst hJ (v := 0) dX11_isNothing_30 (q := 31) rfl (by decide) ?_
      refine q_iadd hJ dX11_isNothing_31 (q := 32) rfl ?_
      refine q_iald hJ dX11_isNothing_32 (q := 33) rfl (by first | exact ka317 | exact ka318 | exact ka319 | exact ka320 | exact ka321 | exact ka322) (ixE (j := 8 * d + 0) (by ((try simp only [nIl_add, nI_mul, nIl_0, nIl_1, nIl_2, nIl_3, nIl_4, nIl_5, nIl_6, nIl_7, nIl_8, nIl_9, nIl_10, nIl_11, nIl_12, nIl_20, nIl_60, nIl_72, nIl_80, nIl_81, nIl_82, nIl_99, nIl_100, nIl_226, nIl_227, nIl_228, nIl_229, nIl_230, nIl_231, nIl_232, nIl_233, nIl_413, nIl_1239, nIl_10000]) <;> first | done | rfl | exact congrArg nI (by omega))) (by omega) (by decide)) hev ?_
      refine q_if_ne hJ (tgt := 68) dX11_isNothing_33 (q := 36) rfl (by decide) (fun c1 => absurd rfl c1) (fun _ => ?_)
      refine q_iload hJ dX11_isNothing_36 (q := 38) rfl rfl ?_
      refine q_callS hJ dX11_isNothing_38 (q := 41) rfl (M_isKey key I R) imX11_isKey ln_X11_57 rfl rfl rfl (Nat.le_of_ble_eq_true rfl) (by decide) (by decide) rfl rfl (fun rv gv Iv Rv hv => ?_)
      obtain ⟨rfl, rfl, rfl, rfl⟩ := hv
      refine q_if_eq hJ (tgt := 62) dX11_isNothing_41 (q := 44) rfl (by decide) (fun c2 => ?_) (fun c2 => ?_)
      · refine q_iconst hJ (v := 1) dX11_isNothing_62 (q := 63) rfl (by decide) ?_
        refine q_goto hJ (tgt := 67) dX11_isNothing_63 (by decide) ?_
        refine q_iret hM dX11_isNothing_67 rfl (by (first | decide | assumption)) ?_
        exact ⟨by simp [ntF, cantA, hf, hn20, *] <;> first | exact Decidable.byContradiction (fun z => c4 (hn20.mpr z)) | exact Nat.not_lt.mp (hn20.mp c4), rfl, rfl, rfl⟩
      · refine q_iload hJ dX11_isNothing_44 (q := 46) rfl rfl ?_
        refine q_if_ge hJ (tgt := 62) dX11_isNothing_46 (q := 49) rfl (by decide) (fun _ => ?_) (fun c3 => absurd (nI_pos' (by omega)) c3)
        refine q_iconst hJ (v := 1) dX11_isNothing_62 (q := 63) rfl (by decide) ?_
        refine q_goto hJ (tgt := 67) dX11_isNothing_63 (by decide) ?_
        refine q_iret hM dX11_isNothing_67 rfl (by (first | decide | assumption)) ?_
        exact ⟨by simp [ntF, cantA, hf, hn20, *] <;> first | exact Decidable.byContradiction (fun z => c4 (hn20.mpr z)) | exact Nat.not_lt.mp (hn20.mp c4), rfl, rfl, rfl⟩
    · refine q_aload_n hJ dX11_isNothing_0 (q := 1) rfl rfl (by first | rfl | exact isR_rr _) ?_
      refine q_getR hJ dX11_isNothing_1 (q := 4) rfl fl_X11_22 rfl (by first | exact ka317 | exact ka318 | exact ka319 | exact ka320 | exact ka321 | exact ka322) (by assumption) rfl ?_
      refine q_bipush hJ (v := 8) dX11_isNothing_4 (q := 6) rfl (by decide) ?_
      refine q_iload_n hJ dX11_isNothing_6 (q := 7) rfl rfl ?_
      refine q_imul hJ dX11_isNothing_7 (q := 8) rfl ?_
      refine q_iconst hJ (v := 1) dX11_isNothing_8 (q := 9) rfl (by decide) ?_
      refine q_iadd hJ dX11_isNothing_9 (q := 10) rfl ?_
      refine q_iald hJ dX11_isNothing_10 (q := 11) rfl (by first | exact ka317 | exact ka318 | exact ka319 | exact ka320 | exact ka321 | exact ka322) (ixE (j := 8 * d + 1) (by ((try simp only [nIl_add, nI_mul, nIl_0, nIl_1, nIl_2, nIl_3, nIl_4, nIl_5, nIl_6, nIl_7, nIl_8, nIl_9, nIl_10, nIl_11, nIl_12, nIl_20, nIl_60, nIl_72, nIl_80, nIl_81, nIl_82, nIl_99, nIl_100, nIl_226, nIl_227, nIl_228, nIl_229, nIl_230, nIl_231, nIl_232, nIl_233, nIl_413, nIl_1239, nIl_10000]) <;> first | done | rfl | exact congrArg nI (by omega))) (by omega) (by decide)) hk ?_
      refine q_istore hJ dX11_isNothing_11 (q := 13) rfl (by decide) ?_
      refine q_aload_n hJ dX11_isNothing_13 (q := 14) rfl rfl (by first | rfl | exact isR_rr _) ?_
      refine q_iload_n hJ dX11_isNothing_14 (q := 15) rfl rfl ?_
      refine q_iload hJ dX11_isNothing_15 (q := 17) rfl rfl ?_
      refine q_callV hJ dX11_isNothing_17 (q := 20) rfl (M_rowOf I R p (aN A) key hp hR.1 hR.2.1 hFR) imX11_rowOf ln_X11_54 (by first | exact ka317 | exact ka318 | exact ka319 | exact ka320 | exact ka321 | exact ka322) (by decide) rfl rfl rfl rfl (Nat.le_of_ble_eq_true rfl) (by decide) (by decide) rfl rfl (fun rv gv Iv Rv hv => ?_)
      obtain ⟨rfl, rfl, rfl, rfl⟩ := hv
      rw [hm, show rwI p (some j) = nI (p + 1 + 4 * j) from rfl]
      refine q_istore hJ dX11_isNothing_20 (q := 22) rfl (by decide) ?_
      refine q_aload_n hJ dX11_isNothing_22 (q := 23) rfl rfl (by first | rfl | exact isR_rr _) ?_
      refine q_getR hJ dX11_isNothing_23 (q := 26) rfl fl_X11_22 rfl (by first | exact ka317 | exact ka318 | exact ka319 | exact ka320 | exact ka321 | exact ka322) (by assumption) rfl ?_
      refine q_bipush hJ (v := 8) dX11_isNothing_26 (q := 28) rfl (by decide) ?_
      refine q_iload_n hJ dX11_isNothing_28 (q := 29) rfl rfl ?_
      refine q_imul hJ dX11_isNothing_29 (q := 30) rfl ?_
      refine q_iconst hJ (v := 0) dX11_isNothing_30 (q := 31) rfl (by decide) ?_
      refine q_iadd hJ dX11_isNothing_31 (q := 32) rfl ?_
      refine q_iald hJ dX11_isNothing_32 (q := 33) rfl (by first | exact ka317 | exact ka318 | exact ka319 | exact ka320 | exact ka321 | exact ka322) (ixE (j := 8 * d + 0) (by ((try simp only [nIl_add, nI_mul, nIl_0, nIl_1, nIl_2, nIl_3, nIl_4, nIl_5, nIl_6, nIl_7, nIl_8, nIl_9, nIl_10, nIl_11, nIl_12, nIl_20, nIl_60, nIl_72, nIl_80, nIl_81, nIl_82, nIl_99, nIl_100, nIl_226, nIl_227, nIl_228, nIl_229, nIl_230, nIl_231, nIl_232, nIl_233, nIl_413, nIl_1239, nIl_10000]) <;> first | done | rfl | exact congrArg nI (by omega))) (by omega) (by decide)) hev ?_
      refine q_if_ne hJ (tgt := 68) dX11_isNothing_33 (q := 36) rfl (by decide) (fun _ => ?_) (fun c1 => absurd c1 (by decide))
      refine q_iload hJ dX11_isNothing_68 (q := 70) rfl rfl ?_
      refine q_if_lt hJ (tgt := 104) dX11_isNothing_70 (q := 73) rfl (by decide) (fun c5 => absurd c5 (nI_pos (by omega))) (fun _ => ?_)
      refine q_aload_n hJ dX11_isNothing_73 (q := 74) rfl rfl (by first | rfl | exact isR_rr _) ?_
      refine q_getR hJ dX11_isNothing_74 (q := 77) rfl fl_X11_22 rfl (by first | exact ka317 | exact ka318 | exact ka319 | exact ka320 | exact ka321 | exact ka322) (by assumption) rfl ?_
      refine q_bipush hJ (v := 8) dX11_isNothing_77 (q := 79) rfl (by decide) ?_
      refine q_iload_n hJ dX11_isNothing_79 (q := 80) rfl rfl ?_
      refine q_imul hJ dX11_isNothing_80 (q := 81) rfl ?_
      refine q_iconst hJ (v := 0) dX11_isNothing_81 (q := 82) rfl (by decide) ?_
      refine q_iadd hJ dX11_isNothing_82 (q := 83) rfl ?_
      refine q_iald hJ dX11_isNothing_83 (q := 84) rfl (by first | exact ka317 | exact ka318 | exact ka319 | exact ka320 | exact ka321 | exact ka322) (ixE (j := 8 * d + 0) (by ((try simp only [nIl_add, nI_mul, nIl_0, nIl_1, nIl_2, nIl_3, nIl_4, nIl_5, nIl_6, nIl_7, nIl_8, nIl_9, nIl_10, nIl_11, nIl_12, nIl_20, nIl_60, nIl_72, nIl_80, nIl_81, nIl_82, nIl_99, nIl_100, nIl_226, nIl_227, nIl_228, nIl_229, nIl_230, nIl_231, nIl_232, nIl_233, nIl_413, nIl_1239, nIl_10000]) <;> first | done | rfl | exact congrArg nI (by omega))) (by omega) (by decide)) hev ?_
      refine q_iconst hJ (v := 1) dX11_isNothing_84 (q := 85) rfl (by decide) ?_
      refine q_icmp_ne hJ (tgt := 108) dX11_isNothing_85 (q := 88) rfl (by decide) (fun c6 => absurd rfl c6) (fun _ => ?_)
      refine q_aload_n hJ dX11_isNothing_88 (q := 89) rfl rfl (by first | rfl | exact isR_rr _) ?_
      refine q_getR hJ dX11_isNothing_89 (q := 92) rfl fl_X11_7 rfl (by first | exact ka317 | exact ka318 | exact ka319 | exact ka320 | exact ka321 | exact ka322) (by assumption) rfl ?_
      refine q_iload hJ dX11_isNothing_92 (q := 94) rfl rfl ?_
      refine q_iconst hJ (v := 1) dX11_isNothing_94 (q := 95) rfl (by decide) ?_
      refine q_iadd hJ dX11_isNothing_95 (q := 96) rfl ?_
      refine q_iload_n hJ dX11_isNothing_96 (q := 97) rfl rfl ?_
      refine q_iadd hJ dX11_isNothing_97 (q := 98) rfl ?_
      refine q_iald hJ dX11_isNothing_98 (q := 99) rfl (by first | exact ka317 | exact ka318 | exact ka319 | exact ka320 | exact ka321 | exact ka322) (ixE (j := p + 1 + 4 * j + 1 + a) (by ((try simp only [nIl_add, nI_mul, nIl_0, nIl_1, nIl_2, nIl_3, nIl_4, nIl_5, nIl_6, nIl_7, nIl_8, nIl_9, nIl_10, nIl_11, nIl_12, nIl_20, nIl_60, nIl_72, nIl_80, nIl_81, nIl_82, nIl_99, nIl_100, nIl_226, nIl_227, nIl_228, nIl_229, nIl_230, nIl_231, nIl_232, nIl_233, nIl_413, nIl_1239, nIl_10000]) <;> first | done | rfl | exact congrArg nI (by omega))) (by omega) (by decide)) (show _ = aK A i (1 + a) by rw [Nat.add_assoc (p + 1 + 4 * j) 1 a]; exact he _ (by omega)) ?_
      refine q_iload hJ dX11_isNothing_99 (q := 101) rfl rfl ?_
      refine q_icmp_ne hJ (tgt := 108) dX11_isNothing_101 (q := 104) rfl (by decide) (fun c7 => ?_) (fun c7 => ?_)
      · refine q_iconst hJ (v := 0) dX11_isNothing_108 (q := 109) rfl (by decide) ?_
        refine q_iret hM dX11_isNothing_109 rfl (by (first | decide | assumption)) ?_
        exact ⟨by simp [ntF, cantA, hf, hn20, *] <;> first | exact Decidable.byContradiction (fun z => c4 (hn20.mpr z)) | exact Nat.not_lt.mp (hn20.mp c4), rfl, rfl, rfl⟩
      · refine q_iconst hJ (v := 1) dX11_isNothing_104 (q := 105) rfl (by decide) ?_
        refine q_goto hJ (tgt := 109) dX11_isNothing_105 (by decide) ?_
        refine q_iret hM dX11_isNothing_109 rfl (by (first | decide | assumption)) ?_
        exact ⟨by simp [ntF, cantA, hf, hn20, *] <;> first | exact Decidable.byContradiction (fun z => c4 (hn20.mpr z)) | exact Nat.not_lt.mp (hn20.mp c4), rfl, rfl, rfl⟩
    · refine q_aload_n hJ dX11_isNothing_0 (q := 1) rfl rfl (by first | rfl | exact isR_rr _) ?_
      refine q_getR hJ dX11_isNothing_1 (q := 4) rfl fl_X11_22 rfl (by first | exact ka317 | exact ka318 | exact ka319 | exact ka320 | exact ka321 | exact ka322) (by assumption) rfl ?_
      refine q_bipush hJ (v := 8) dX11_isNothing_4 (q := 6) rfl (by decide) ?_
      refine q_iload_n hJ dX11_isNothing_6 (q := 7) rfl rfl ?_
      refine q_imul hJ dX11_isNothing_7 (q := 8) rfl ?_
      refine q_iconst hJ (v := 1) dX11_isNothing_8 (q := 9) rfl (by decide) ?_
      refine q_iadd hJ dX11_isNothing_9 (q := 10) rfl ?_
      refine q_iald hJ dX11_isNothing_10 (q := 11) rfl (by first | exact ka317 | exact ka318 | exact ka319 | exact ka320 | exact ka321 | exact ka322) (ixE (j := 8 * d + 1) (by ((try simp only [nIl_add, nI_mul, nIl_0, nIl_1, nIl_2, nIl_3, nIl_4, nIl_5, nIl_6, nIl_7, nIl_8, nIl_9, nIl_10, nIl_11, nIl_12, nIl_20, nIl_60, nIl_72, nIl_80, nIl_81, nIl_82, nIl_99, nIl_100, nIl_226, nIl_227, nIl_228, nIl_229, nIl_230, nIl_231, nIl_232, nIl_233, nIl_413, nIl_1239, nIl_10000]) <;> first | done | rfl | exact congrArg nI (by omega))) (by omega) (by decide)) hk ?_
      refine q_istore hJ dX11_isNothing_11 (q := 13) rfl (by decide) ?_
      refine q_aload_n hJ dX11_isNothing_13 (q := 14) rfl rfl (by first | rfl | exact isR_rr _) ?_
      refine q_iload_n hJ dX11_isNothing_14 (q := 15) rfl rfl ?_
      refine q_iload hJ dX11_isNothing_15 (q := 17) rfl rfl ?_
      refine q_callV hJ dX11_isNothing_17 (q := 20) rfl (M_rowOf I R p (aN A) key hp hR.1 hR.2.1 hFR) imX11_rowOf ln_X11_54 (by first | exact ka317 | exact ka318 | exact ka319 | exact ka320 | exact ka321 | exact ka322) (by decide) rfl rfl rfl rfl (Nat.le_of_ble_eq_true rfl) (by decide) (by decide) rfl rfl (fun rv gv Iv Rv hv => ?_)
      obtain ⟨rfl, rfl, rfl, rfl⟩ := hv
      rw [hm, show rwI p (some j) = nI (p + 1 + 4 * j) from rfl]
      refine q_istore hJ dX11_isNothing_20 (q := 22) rfl (by decide) ?_
      refine q_aload_n hJ dX11_isNothing_22 (q := 23) rfl rfl (by first | rfl | exact isR_rr _) ?_
      refine q_getR hJ dX11_isNothing_23 (q := 26) rfl fl_X11_22 rfl (by first | exact ka317 | exact ka318 | exact ka319 | exact ka320 | exact ka321 | exact ka322) (by assumption) rfl ?_
      refine q_bipush hJ (v := 8) dX11_isNothing_26 (q := 28) rfl (by decide) ?_
      refine q_iload_n hJ dX11_isNothing_28 (q := 29) rfl rfl ?_
      refine q_imul hJ dX11_isNothing_29 (q := 30) rfl ?_
      refine q_iconst hJ (v := 0) dX11_isNothing_30 (q := 31) rfl (by decide) ?_
      refine q_iadd hJ dX11_isNothing_31 (q := 32) rfl ?_
      refine q_iald hJ dX11_isNothing_32 (q := 33) rfl (by first | exact ka317 | exact ka318 | exact ka319 | exact ka320 | exact ka321 | exact ka322) (ixE (j := 8 * d + 0) (by ((try simp only [nIl_add, nI_mul, nIl_0, nIl_1, nIl_2, nIl_3, nIl_4, nIl_5, nIl_6, nIl_7, nIl_8, nIl_9, nIl_10, nIl_11, nIl_12, nIl_20, nIl_60, nIl_72, nIl_80, nIl_81, nIl_82, nIl_99, nIl_100, nIl_226, nIl_227, nIl_228, nIl_229, nIl_230, nIl_231, nIl_232, nIl_233, nIl_413, nIl_1239, nIl_10000]) <;> first | done | rfl | exact congrArg nI (by omega))) (by omega) (by decide)) hev ?_
      refine q_if_ne hJ (tgt := 68) dX11_isNothing_33 (q := 36) rfl (by decide) (fun _ => ?_) (fun c1 => absurd c1 (by decide))
      refine q_iload hJ dX11_isNothing_68 (q := 70) rfl rfl ?_
      refine q_if_lt hJ (tgt := 104) dX11_isNothing_70 (q := 73) rfl (by decide) (fun c5 => absurd c5 (nI_pos (by omega))) (fun _ => ?_)
      refine q_aload_n hJ dX11_isNothing_73 (q := 74) rfl rfl (by first | rfl | exact isR_rr _) ?_
      refine q_getR hJ dX11_isNothing_74 (q := 77) rfl fl_X11_22 rfl (by first | exact ka317 | exact ka318 | exact ka319 | exact ka320 | exact ka321 | exact ka322) (by assumption) rfl ?_
      refine q_bipush hJ (v := 8) dX11_isNothing_77 (q := 79) rfl (by decide) ?_
      refine q_iload_n hJ dX11_isNothing_79 (q := 80) rfl rfl ?_
      refine q_imul hJ dX11_isNothing_80 (q := 81) rfl ?_
      refine q_iconst hJ (v := 0) dX11_isNothing_81 (q := 82) rfl (by decide) ?_
      refine q_iadd hJ dX11_isNothing_82 (q := 83) rfl ?_
      refine q_iald hJ dX11_isNothing_83 (q := 84) rfl (by first | exact ka317 | exact ka318 | exact ka319 | exact ka320 | exact ka321 | exact ka322) (ixE (j := 8 * d + 0) (by ((try simp only [nIl_add, nI_mul, nIl_0, nIl_1, nIl_2, nIl_3, nIl_4, nIl_5, nIl_6, nIl_7, nIl_8, nIl_9, nIl_10, nIl_11, nIl_12, nIl_20, nIl_60, nIl_72, nIl_80, nIl_81, nIl_82, nIl_99, nIl_100, nIl_226, nIl_227, nIl_228, nIl_229, nIl_230, nIl_231, nIl_232, nIl_233, nIl_413, nIl_1239, nIl_10000]) <;> first | done | rfl | exact congrArg nI (by omega))) (by omega) (by decide)) hev ?_
      refine q_iconst hJ (v := 1) dX11_isNothing_84 (q := 85) rfl (by decide) ?_
      refine q_icmp_ne hJ (tgt := 108) dX11_isNothing_85 (q := 88) rfl (by decide) (fun _ => ?_) (fun c6 => absurd c6 (by decide))
      refine q_iconst hJ (v := 0) dX11_isNothing_108 (q := 109) rfl (by decide) ?_
      refine q_iret hM dX11_isNothing_109 rfl (by (first | decide | assumption)) ?_
      exact ⟨by simp [ntF, cantA, hf, hn20, *] <;> first | exact Decidable.byContradiction (fun z => c4 (hn20.mpr z)) | exact Nat.not_lt.mp (hn20.mp c4), rfl, rfl, rfl⟩

def BgPo (p d : Nat) (X : XS) (ev : Int32) (img : Nat → Int32) (a : Nat) (v ca : Int32) (I : MI) (R : MR) : Po := fun r g' I' R' => g0 = g' ∧ R = R' ∧ Kp p I I' ∧ (∀ i, i < 8 * d ∨ 8 * d + 8 ≤ i → I' 322 i = I 322 i) ∧ ((bgP (xA X) ev img a v = none ∧ r = some (.int 0) ∧ EM I' p X) ∨ ∃ img2, bgP (xA X) ev img a v = some img2 ∧ ((100 ≤ xO X ∧ r = some (.int 0) ∧ EM I' p (refA X 3 ca)) ∨ (xO X < 100 ∧ r = some (.int 1) ∧ EM I' p (begA d X) ∧ FrP I' d ev img2 0 0 ca)))
theorem fw_eq {I : MI} {c b : Nat} {g : Nat → Int32} {n i : Nat} (h1 : b ≤ i) (h2 : i < b + n) : fw I c b g n c i = g (i - b) := if_pos ⟨rfl, h1, h2⟩
theorem bg_up {A : AS} {img img2 : Nat → Int32} {a : Nat} {v : Int32} (ha : a < 3) (h : bgP A 1 img a v = some img2) : ∃ i, fK A (img 0) = some i ∧ (∀ t, t ≠ 0 → img2 t = if t = 1 + a then v else aK A i t) ∧ img2 0 = img 0 := by
  unfold bgP prUp at h
  rw [if_neg (by decide), if_pos rfl] at h
  rcases hf : fK A (img 0) with _ | i
  · rw [hf] at h; exact absurd h (by simp)
  · rw [hf] at h
    simp only at h
    split at h
    · exact absurd h (by simp)
    · have e := Option.some.inj h
      refine ⟨i, rfl, fun t ht => by rw [← e, chgF_n ha], ?_⟩
      rw [← e, chgF_n ha, if_neg (by omega)]
      exact (fndF_some hf).2.2.1
theorem bg_del {A : AS} {img img2 : Nat → Int32} {a : Nat} {v : Int32} (h : bgP A 2 img a v = some img2) : ∃ i, fK A (img 0) = some i ∧ (∀ t, t ≠ 0 → img2 t = aK A i t) ∧ img2 0 = img 0 := by
  unfold bgP prDel at h
  rw [if_neg (by decide), if_neg (by decide)] at h
  rcases hf : fK A (img 0) with _ | i
  · rw [hf] at h; exact absurd h (by simp)
  · rw [hf] at h
    have e := Option.some.inj h
    exact ⟨i, rfl, fun t ht => by rw [← e], by rw [← e]; exact (fndF_some hf).2.2.1⟩
theorem EM.beg {I I2 : MI} {p d : Nat} {X : XS} (h : EM I p X) (h1 : ∀ a, a ≠ 317 → I2 a = I a) (h2 : I2 317 8 = nI (xO X) + 1) (h3 : I2 317 10 = if xD X < nI d then nI d else xD X) (h4 : ∀ k, k ≠ 8 → k ≠ 10 → I2 317 k = I 317 k) : EM I2 p (begA d X) := by
  obtain ⟨a, b, c1, c2, c3, c4, c5⟩ := h
  exact ⟨by rw [h1 318 (by decide)]; exact a, b, by rw [h2]; exact nI_1 _, by rw [h4 9 (by decide) (by decide)]; exact c2, h3, by rw [h4 11 (by decide) (by decide)]; exact c4, by rw [h4 12 (by decide) (by decide)]; exact c5⟩
set_option maxRecDepth 100000 in
set_option maxHeartbeats 800000 in
theorem M_begins (p d a : Nat) (hp : p ≤ 413) (h1d : 1 ≤ d) (hd : d < 9) (ha : a < 3) (ev v ca : Int32) (img : Nat → Int32) (X : XS) (I : MI) (R : MR) (hFR : FR R) (hX : EM I p X) (hx100 : xO X ≤ 100) (hE : ev = 0 ∨ ev = 1 ∨ ev = 2) (hev : I 322 (8 * d + 0) = ev) (hi : ∀ t, t < 4 → I 322 (8 * d + 1 + t) = img t) (hca : I 322 (8 * d + 7) = ca) : Sp 3 0 0 mX11_begins [.ref 317, .int (nI p), .int (nI d), .int (nI a), .int v] g0 I R (BgPo p d X ev img a v ca I R) := by
  have hm0 := hFR.2.2.2.2.2.1
  have hm1 := hFR.2.2.2.2.2.2.1
  have hm3 := hFR.2.2.2.2.2.2.2.1
  have hm5 := hFR.2.2.2.2.2.2.2.2.1
  have hm7 := hFR.2.2.2.2.2.2.2.2.2
  obtain ⟨⟨hR, hU, hS, hL⟩, hok, hc⟩ := id hX
  obtain ⟨key, hkey⟩ : ∃ key, img 0 = key := ⟨_, rfl⟩
  have hk : I 322 (8 * d + 1) = key := by rw [← hkey]; exact hi 0 (by decide)
  refine Sp.on (by decide +kernel) rfl rfl (fun J hM => ?_)
  have hJ := hM.ok
  rcases hb : bgP (xA X) ev img a v with _ | img2
  · have hnt : ntF (xA X) ev key a v = 1 := by rw [← hkey]; exact (nt_none ha hE).mp hb
    refine q_aload_n hJ dX11_begins_0 (q := 1) rfl rfl (by first | rfl | exact isR_rr _) ?_
    refine q_iload_n hJ dX11_begins_1 (q := 2) rfl rfl ?_
    refine q_iload_n hJ dX11_begins_2 (q := 3) rfl rfl ?_
    refine q_iload_n hJ dX11_begins_3 (q := 4) rfl rfl ?_
    refine q_iload hJ dX11_begins_4 (q := 6) rfl rfl ?_
    refine q_callV hJ dX11_begins_6 (q := 9) rfl (M_isNothing p d a hp hd ha ev key v (xA X) I R hFR hR hok.1 hE hev hk) imX11_isNothing ln_X11_61 (by first | exact ka317 | exact ka318 | exact ka319 | exact ka320 | exact ka321 | exact ka322) (by decide) rfl rfl rfl rfl (Nat.le_of_ble_eq_true rfl) (by decide) (by decide) rfl rfl (fun rv gv Iv Rv hv => ?_)
    obtain ⟨rfl, rfl, rfl, rfl⟩ := hv
    rw [hnt]
    refine q_if_eq hJ (tgt := 14) dX11_begins_9 (q := 12) rfl (by decide) (fun c1 => absurd c1 (by decide)) (fun _ => ?_)
    refine q_iconst hJ (v := 0) dX11_begins_12 (q := 13) rfl (by decide) ?_
    refine q_iret hM dX11_begins_13 rfl (by (first | decide | assumption)) ?_
    exact ⟨rfl, rfl, Kp.rf p I, fun _ _ => rfl, Or.inl ⟨hb, rfl, hX⟩⟩
  · have hnt : ntF (xA X) ev key a v = 0 := by
      refine (nt_01 _ _ _ _ _).resolve_right (fun z => ?_)
      rw [← hkey] at z
      rw [(nt_none ha hE).mpr z] at hb
      exact absurd hb (by simp)
    by_cases ho : xO X = 100
    · refine q_aload_n hJ dX11_begins_0 (q := 1) rfl rfl (by first | rfl | exact isR_rr _) ?_
      refine q_iload_n hJ dX11_begins_1 (q := 2) rfl rfl ?_
      refine q_iload_n hJ dX11_begins_2 (q := 3) rfl rfl ?_
      refine q_iload_n hJ dX11_begins_3 (q := 4) rfl rfl ?_
      refine q_iload hJ dX11_begins_4 (q := 6) rfl rfl ?_
      refine q_callV hJ dX11_begins_6 (q := 9) rfl (M_isNothing p d a hp hd ha ev key v (xA X) I R hFR hR hok.1 hE hev hk) imX11_isNothing ln_X11_61 (by first | exact ka317 | exact ka318 | exact ka319 | exact ka320 | exact ka321 | exact ka322) (by decide) rfl rfl rfl rfl (Nat.le_of_ble_eq_true rfl) (by decide) (by decide) rfl rfl (fun rv gv Iv Rv hv => ?_)
      obtain ⟨rfl, rfl, rfl, rfl⟩ := hv
      rw [hnt]
      refine q_if_eq hJ (tgt := 14) dX11_begins_9 (q := 12) rfl (by decide) (fun _ => ?_) (fun c1 => absurd rfl c1)
      refine q_aload_n hJ dX11_begins_14 (q := 15) rfl rfl (by first | rfl | exact isR_rr _) ?_
      refine q_getI hJ dX11_begins_15 (q := 18) rfl fl_X11_64 rfl (by first | exact ka317 | exact ka318 | exact ka319 | exact ka320 | exact ka321 | exact ka322) hc.1 ?_
      refine q_bipush hJ (v := 100) dX11_begins_18 (q := 20) rfl (by decide) ?_
      refine q_icmp_ne hJ (tgt := 42) dX11_begins_20 (q := 23) rfl (by decide) (fun c2 => absurd c2 (fun z => z (by rw [ho]; rfl))) (fun _ => ?_)
      refine q_aload_n hJ dX11_begins_23 (q := 24) rfl rfl (by first | rfl | exact isR_rr _) ?_
      refine q_iconst hJ (v := 3) dX11_begins_24 (q := 25) rfl (by decide) ?_
      refine q_aload_n hJ dX11_begins_25 (q := 26) rfl rfl (by first | rfl | exact isR_rr _) ?_
      refine q_getR hJ dX11_begins_26 (q := 29) rfl fl_X11_22 rfl (by first | exact ka317 | exact ka318 | exact ka319 | exact ka320 | exact ka321 | exact ka322) (by assumption) rfl ?_
      refine q_bipush hJ (v := 8) dX11_begins_29 (q := 31) rfl (by decide) ?_
      refine q_iload_n hJ dX11_begins_31 (q := 32) rfl rfl ?_
      refine q_imul hJ dX11_begins_32 (q := 33) rfl ?_
      refine q_bipush hJ (v := 7) dX11_begins_33 (q := 35) rfl (by decide) ?_
      refine q_iadd hJ dX11_begins_35 (q := 36) rfl ?_
      refine q_iald hJ dX11_begins_36 (q := 37) rfl (by first | exact ka317 | exact ka318 | exact ka319 | exact ka320 | exact ka321 | exact ka322) (ixE (j := 8 * d + 7) (by ((try simp only [nIl_add, nI_mul, nIl_0, nIl_1, nIl_2, nIl_3, nIl_4, nIl_5, nIl_6, nIl_7, nIl_8, nIl_9, nIl_10, nIl_11, nIl_12, nIl_20, nIl_60, nIl_72, nIl_80, nIl_81, nIl_82, nIl_99, nIl_100, nIl_226, nIl_227, nIl_228, nIl_229, nIl_230, nIl_231, nIl_232, nIl_233, nIl_413, nIl_1239, nIl_10000]) <;> first | done | rfl | exact congrArg nI (by omega))) (by omega) (by decide)) hca ?_
      refine q_callV hJ dX11_begins_37 (q := 40) rfl (M_refuses 3 ca I R) imX11_refuses ln_X11_67 (by first | exact ka317 | exact ka318 | exact ka319 | exact ka320 | exact ka321 | exact ka322) (by decide) rfl rfl rfl rfl (Nat.le_of_ble_eq_true rfl) (by decide) (by decide) rfl rfl (fun rv gv Iv Rv hv => ?_)
      obtain ⟨rfl, rfl, rfl, rfl⟩ := hv
      refine q_iconst hJ (v := 0) dX11_begins_40 (q := 41) rfl (by decide) ?_
      refine q_iret hM dX11_begins_41 rfl (by (first | decide | assumption)) ?_
      refine ⟨rfl, rfl, ((Kp.rf p I).u317 (by decide) _).u317 (by decide) _, fun i hi => by rw [up2_i (by omega), up2_i (by omega)], Or.inr ⟨img2, hb, Or.inl ⟨by omega, rfl, ?_⟩⟩⟩
      exact ⟨hX.1.at (Wnd.of fun i _ _ => by rw [up2_i (by omega), up2_i (by omega)]), hok, by rw [up2_i (by omega), up2_i (by omega)]; exact hc.1, by rw [up2_i (by omega), up2_i (by omega)]; exact hc.2.1, by rw [up2_i (by omega), up2_i (by omega)]; exact hc.2.2.1, by rw [up2_i (by omega), up2_self]; rfl, by rw [up2_self]; rfl⟩
    replace ho : xO X < 100 := by omega
    have rest : ∀ I2 : MI, (∀ a, a ≠ 317 → I2 a = I a) → EM I2 p (begA d X) → Kp p I I2 → J 0 0 72 [some (.ref 317), some (.int (nI p)), some (.int (nI d)), some (.int (nI a)), some (.int v), none, none, none] [] g0 I2 R := by
      intro I2 h2 he2 hkp
      have e318 := h2 318 (by decide)
      have e322 := h2 322 (by decide)
      rcases hE with rfl | rfl | rfl
      · have hbi : img2 = img := by
          unfold bgP at hb
          rw [if_pos rfl] at hb
          split at hb
          · exact absurd hb (by simp)
          · exact (Option.some.inj hb).symm
        refine q_aload_n hJ dX11_begins_72 (q := 73) rfl rfl (by first | rfl | exact isR_rr _) ?_
        refine q_getR hJ dX11_begins_73 (q := 76) rfl fl_X11_22 rfl (by first | exact ka317 | exact ka318 | exact ka319 | exact ka320 | exact ka321 | exact ka322) (by assumption) rfl ?_
        refine q_bipush hJ (v := 8) dX11_begins_76 (q := 78) rfl (by decide) ?_
        refine q_iload_n hJ dX11_begins_78 (q := 79) rfl rfl ?_
        refine q_imul hJ dX11_begins_79 (q := 80) rfl ?_
        refine q_iconst hJ (v := 0) dX11_begins_80 (q := 81) rfl (by decide) ?_
        refine q_iadd hJ dX11_begins_81 (q := 82) rfl ?_
        refine q_iald hJ dX11_begins_82 (q := 83) rfl (by first | exact ka317 | exact ka318 | exact ka319 | exact ka320 | exact ka321 | exact ka322) (ixE (j := 8 * d + 0) (by ((try simp only [nIl_add, nI_mul, nIl_0, nIl_1, nIl_2, nIl_3, nIl_4, nIl_5, nIl_6, nIl_7, nIl_8, nIl_9, nIl_10, nIl_11, nIl_12, nIl_20, nIl_60, nIl_72, nIl_80, nIl_81, nIl_82, nIl_99, nIl_100, nIl_226, nIl_227, nIl_228, nIl_229, nIl_230, nIl_231, nIl_232, nIl_233, nIl_413, nIl_1239, nIl_10000]) <;> first | done | rfl | exact congrArg nI (by omega))) (by omega) (by decide)) (show _ = 0 by rw [e322]; exact hev) ?_
        refine q_istore hJ dX11_begins_83 (q := 85) rfl (by decide) ?_
        refine q_aload_n hJ dX11_begins_85 (q := 86) rfl rfl (by first | rfl | exact isR_rr _) ?_
        refine q_iload_n hJ dX11_begins_86 (q := 87) rfl rfl ?_
        refine q_aload_n hJ dX11_begins_87 (q := 88) rfl rfl (by first | rfl | exact isR_rr _) ?_
        refine q_getR hJ dX11_begins_88 (q := 91) rfl fl_X11_22 rfl (by first | exact ka317 | exact ka318 | exact ka319 | exact ka320 | exact ka321 | exact ka322) (by assumption) rfl ?_
        refine q_bipush hJ (v := 8) dX11_begins_91 (q := 93) rfl (by decide) ?_
        refine q_iload_n hJ dX11_begins_93 (q := 94) rfl rfl ?_
        refine q_imul hJ dX11_begins_94 (q := 95) rfl ?_
        refine q_iconst hJ (v := 1) dX11_begins_95 (q := 96) rfl (by decide) ?_
        refine q_iadd hJ dX11_begins_96 (q := 97) rfl ?_
        refine q_iald hJ dX11_begins_97 (q := 98) rfl (by first | exact ka317 | exact ka318 | exact ka319 | exact ka320 | exact ka321 | exact ka322) (ixE (j := 8 * d + 1) (by ((try simp only [nIl_add, nI_mul, nIl_0, nIl_1, nIl_2, nIl_3, nIl_4, nIl_5, nIl_6, nIl_7, nIl_8, nIl_9, nIl_10, nIl_11, nIl_12, nIl_20, nIl_60, nIl_72, nIl_80, nIl_81, nIl_82, nIl_99, nIl_100, nIl_226, nIl_227, nIl_228, nIl_229, nIl_230, nIl_231, nIl_232, nIl_233, nIl_413, nIl_1239, nIl_10000]) <;> first | done | rfl | exact congrArg nI (by omega))) (by omega) (by decide)) (show _ = key by rw [e322]; exact hk) ?_
        refine q_callV hJ dX11_begins_98 (q := 101) rfl (M_rowOf I2 R p (aN (xA X)) key hp (by rw [e318]; exact hR.1) hR.2.1 hFR) imX11_rowOf ln_X11_54 (by first | exact ka317 | exact ka318 | exact ka319 | exact ka320 | exact ka321 | exact ka322) (by decide) rfl rfl rfl rfl (Nat.le_of_ble_eq_true rfl) (by decide) (by decide) rfl rfl (fun rv gv Iv Rv hv => ?_)
        obtain ⟨rfl, rfl, rfl, rfl⟩ := hv
        rw [e318]
        refine q_istore hJ dX11_begins_101 (q := 103) rfl (by decide) ?_
        refine q_iconst hJ (v := 0) dX11_begins_103 (q := 104) rfl (by decide) ?_
        refine q_istore hJ dX11_begins_104 (q := 106) rfl (by decide) ?_
        refine q_iload hJ dX11_begins_106 (q := 108) rfl rfl ?_
        refine q_iconst hJ (v := 3) dX11_begins_108 (q := 109) rfl (by decide) ?_
        refine q_icmp_ge hJ (tgt := 166) dX11_begins_109 (q := 112) rfl (by decide) (fun c3 => absurd c3 (by decide)) (fun _ => ?_)
        refine q_iload hJ dX11_begins_112 (q := 114) rfl rfl ?_
        refine q_if_eq hJ (tgt := 166) dX11_begins_114 (q := 117) rfl (by decide) (fun _ => ?_) (fun c4 => absurd rfl c4)
        refine q_aload_n hJ dX11_begins_166 (q := 167) rfl rfl (by first | rfl | exact isR_rr _) ?_
        refine q_getR hJ dX11_begins_167 (q := 170) rfl fl_X11_22 rfl (by first | exact ka317 | exact ka318 | exact ka319 | exact ka320 | exact ka321 | exact ka322) (by assumption) rfl ?_
        refine q_bipush hJ (v := 8) dX11_begins_170 (q := 172) rfl (by decide) ?_
        refine q_iload_n hJ dX11_begins_172 (q := 173) rfl rfl ?_
        refine q_imul hJ dX11_begins_173 (q := 174) rfl ?_
        refine q_iconst hJ (v := 5) dX11_begins_174 (q := 175) rfl (by decide) ?_
        refine q_iadd hJ dX11_begins_175 (q := 176) rfl ?_
        refine q_iconst hJ (v := 0) dX11_begins_176 (q := 177) rfl (by decide) ?_
        refine q_iast hJ dX11_begins_177 (q := 178) rfl (by first | exact ka317 | exact ka318 | exact ka319 | exact ka320 | exact ka321 | exact ka322) (ixE (j := 8 * d + 5) (by ((try simp only [nIl_add, nI_mul, nIl_0, nIl_1, nIl_2, nIl_3, nIl_4, nIl_5, nIl_6, nIl_7, nIl_8, nIl_9, nIl_10, nIl_11, nIl_12, nIl_20, nIl_60, nIl_72, nIl_80, nIl_81, nIl_82, nIl_99, nIl_100, nIl_226, nIl_227, nIl_228, nIl_229, nIl_230, nIl_231, nIl_232, nIl_233, nIl_413, nIl_1239, nIl_10000]) <;> first | done | rfl | exact congrArg nI (by omega))) (by omega) (by decide)) ?_
        refine q_aload_n hJ dX11_begins_178 (q := 179) rfl rfl (by first | rfl | exact isR_rr _) ?_
        refine q_getR hJ dX11_begins_179 (q := 182) rfl fl_X11_22 rfl (by first | exact ka317 | exact ka318 | exact ka319 | exact ka320 | exact ka321 | exact ka322) (by assumption) rfl ?_
        refine q_bipush hJ (v := 8) dX11_begins_182 (q := 184) rfl (by decide) ?_
        refine q_iload_n hJ dX11_begins_184 (q := 185) rfl rfl ?_
        refine q_imul hJ dX11_begins_185 (q := 186) rfl ?_
        refine q_bipush hJ (v := 6) dX11_begins_186 (q := 188) rfl (by decide) ?_
        refine q_iadd hJ dX11_begins_188 (q := 189) rfl ?_
        refine q_iconst hJ (v := 0) dX11_begins_189 (q := 190) rfl (by decide) ?_
        refine q_iast hJ dX11_begins_190 (q := 191) rfl (by first | exact ka317 | exact ka318 | exact ka319 | exact ka320 | exact ka321 | exact ka322) (ixE (j := 8 * d + 6) (by ((try simp only [nIl_add, nI_mul, nIl_0, nIl_1, nIl_2, nIl_3, nIl_4, nIl_5, nIl_6, nIl_7, nIl_8, nIl_9, nIl_10, nIl_11, nIl_12, nIl_20, nIl_60, nIl_72, nIl_80, nIl_81, nIl_82, nIl_99, nIl_100, nIl_226, nIl_227, nIl_228, nIl_229, nIl_230, nIl_231, nIl_232, nIl_233, nIl_413, nIl_1239, nIl_10000]) <;> first | done | rfl | exact congrArg nI (by omega))) (by omega) (by decide)) ?_
        refine q_iconst hJ (v := 1) dX11_begins_191 (q := 192) rfl (by decide) ?_
        refine q_iret hM dX11_begins_192 rfl (by (first | decide | assumption)) ?_
        refine ⟨rfl, rfl, (hkp.u322 _ _).u322 _ _, fun i hi => by rw [up2_i (by omega), up2_i (by omega), e322], Or.inr ⟨img2, hb, Or.inr ⟨ho, rfl, (he2.of (fun k _ _ => by rw [up2_i (by omega), up2_i (by omega)]) (fun i _ _ => by rw [up2_i (by omega), up2_i (by omega)])), by rw [up2_i (by omega), up2_i (by omega), e322]; exact hev, fun t ht => ?_, by rw [up2_i (by omega), up2_self], by rw [up2_self], by rw [up2_i (by omega), up2_i (by omega), e322]; exact hca⟩⟩⟩
        rw [up2_i (by omega), up2_i (by omega), e322, show img2 = img from hbi]; exact hi t ht
      · obtain ⟨i, hf, hi2, hi0⟩ := bg_up ha hb
        rw [hkey] at hf
        obtain ⟨j, hj, hm, he⟩ := hR.some hok.1 hf
        have hj20 := hR.2.1
        have loop : ∀ (k t : Nat), k + t = 3 → J 0 0 106 [some (.ref 317), some (.int (nI p)), some (.int (nI d)), some (.int (nI a)), some (.int v), some (.int 1), some (.int (nI (p + 1 + 4 * j))), some (.int (nI t))] [] g0 (fw I2 322 (8 * d + 2) (fun s => img2 (1 + s)) t) R := by
          intro k
          induction k with
          | zero =>
            intro t hm2
            refine q_iload hJ dX11_begins_106 (q := 108) rfl rfl ?_
            refine q_iconst hJ (v := 3) dX11_begins_108 (q := 109) rfl (by decide) ?_
            refine q_icmp_ge hJ (tgt := 166) dX11_begins_109 (q := 112) rfl (by decide) (fun _ => ?_) (fun c3 => absurd ((nI_leI (a := 3) (b := t) (by omega) (by omega)).mpr (by omega)) c3)
            refine q_aload_n hJ dX11_begins_166 (q := 167) rfl rfl (by first | rfl | exact isR_rr _) ?_
            refine q_getR hJ dX11_begins_167 (q := 170) rfl fl_X11_22 rfl (by first | exact ka317 | exact ka318 | exact ka319 | exact ka320 | exact ka321 | exact ka322) (by assumption) rfl ?_
            refine q_bipush hJ (v := 8) dX11_begins_170 (q := 172) rfl (by decide) ?_
            refine q_iload_n hJ dX11_begins_172 (q := 173) rfl rfl ?_
            refine q_imul hJ dX11_begins_173 (q := 174) rfl ?_
            refine q_iconst hJ (v := 5) dX11_begins_174 (q := 175) rfl (by decide) ?_
            refine q_iadd hJ dX11_begins_175 (q := 176) rfl ?_
            refine q_iconst hJ (v := 0) dX11_begins_176 (q := 177) rfl (by decide) ?_
            refine q_iast hJ dX11_begins_177 (q := 178) rfl (by first | exact ka317 | exact ka318 | exact ka319 | exact ka320 | exact ka321 | exact ka322) (ixE (j := 8 * d + 5) (by ((try simp only [nIl_add, nI_mul, nIl_0, nIl_1, nIl_2, nIl_3, nIl_4, nIl_5, nIl_6, nIl_7, nIl_8, nIl_9, nIl_10, nIl_11, nIl_12, nIl_20, nIl_60, nIl_72, nIl_80, nIl_81, nIl_82, nIl_99, nIl_100, nIl_226, nIl_227, nIl_228, nIl_229, nIl_230, nIl_231, nIl_232, nIl_233, nIl_413, nIl_1239, nIl_10000]) <;> first | done | rfl | exact congrArg nI (by omega))) (by omega) (by decide)) ?_
            refine q_aload_n hJ dX11_begins_178 (q := 179) rfl rfl (by first | rfl | exact isR_rr _) ?_
            refine q_getR hJ dX11_begins_179 (q := 182) rfl fl_X11_22 rfl (by first | exact ka317 | exact ka318 | exact ka319 | exact ka320 | exact ka321 | exact ka322) (by assumption) rfl ?_
            refine q_bipush hJ (v := 8) dX11_begins_182 (q := 184) rfl (by decide) ?_
            refine q_iload_n hJ dX11_begins_184 (q := 185) rfl rfl ?_
            refine q_imul hJ dX11_begins_185 (q := 186) rfl ?_
            refine q_bipush hJ (v := 6) dX11_begins_186 (q := 188) rfl (by decide) ?_
            refine q_iadd hJ dX11_begins_188 (q := 189) rfl ?_
            refine q_iconst hJ (v := 0) dX11_begins_189 (q := 190) rfl (by decide) ?_
            refine q_iast hJ dX11_begins_190 (q := 191) rfl (by first | exact ka317 | exact ka318 | exact ka319 | exact ka320 | exact ka321 | exact ka322) (ixE (j := 8 * d + 6) (by ((try simp only [nIl_add, nI_mul, nIl_0, nIl_1, nIl_2, nIl_3, nIl_4, nIl_5, nIl_6, nIl_7, nIl_8, nIl_9, nIl_10, nIl_11, nIl_12, nIl_20, nIl_60, nIl_72, nIl_80, nIl_81, nIl_82, nIl_99, nIl_100, nIl_226, nIl_227, nIl_228, nIl_229, nIl_230, nIl_231, nIl_232, nIl_233, nIl_413, nIl_1239, nIl_10000]) <;> first | done | rfl | exact congrArg nI (by omega))) (by omega) (by decide)) ?_
            refine q_iconst hJ (v := 1) dX11_begins_191 (q := 192) rfl (by decide) ?_
            refine q_iret hM dX11_begins_192 rfl (by (first | decide | assumption)) ?_
            have et : t = 3 := by omega
            subst et
            refine ⟨rfl, rfl, (((hkp.tr ⟨fun a _ _ h3 => fw_o h3, fun _ _ => congrFun (fw_o (by decide)) _, fun _ _ => congrFun (fw_o (by decide)) _⟩).u322 _ _).u322 _ _), fun k hk2 => by rw [up2_i (by omega), up2_i (by omega), fw_out (by omega), e322], Or.inr ⟨img2, hb, Or.inr ⟨ho, rfl, (he2.of (fun k _ _ => by rw [up2_i (by omega), up2_i (by omega), fw_o (by decide)]) (fun k _ _ => by rw [up2_i (by omega), up2_i (by omega), fw_o (by decide)])), by rw [up2_i (by omega), up2_i (by omega), fw_out (by omega), e322]; exact hev, fun s hs => ?_, by rw [up2_i (by omega), up2_self], by rw [up2_self], by rw [up2_i (by omega), up2_i (by omega), fw_out (by omega), e322]; exact hca⟩⟩⟩
            by_cases e0 : s = 0
            · rw [e0, up2_i (by omega), up2_i (by omega), fw_out (by omega), e322, hi0]; exact hi 0 (by decide)
            · rw [up2_i (by omega), up2_i (by omega), fw_eq (by omega) (by omega)]; congr 1; omega
          | succ k ih =>
            intro t hm2
            refine q_iload hJ dX11_begins_106 (q := 108) rfl rfl ?_
            refine q_iconst hJ (v := 3) dX11_begins_108 (q := 109) rfl (by decide) ?_
            refine q_icmp_ge hJ (tgt := 166) dX11_begins_109 (q := 112) rfl (by decide) (fun c3 => absurd ((nI_leI (a := 3) (b := t) (by omega) (by omega)).mp c3) (by omega)) (fun _ => ?_)
            refine q_iload hJ dX11_begins_112 (q := 114) rfl rfl ?_
            refine q_if_eq hJ (tgt := 166) dX11_begins_114 (q := 117) rfl (by decide) (fun c4 => absurd c4 (by decide)) (fun _ => ?_)
            refine q_aload_n hJ dX11_begins_117 (q := 118) rfl rfl (by first | rfl | exact isR_rr _) ?_
            refine q_getR hJ dX11_begins_118 (q := 121) rfl fl_X11_22 rfl (by first | exact ka317 | exact ka318 | exact ka319 | exact ka320 | exact ka321 | exact ka322) (by assumption) rfl ?_
            refine q_bipush hJ (v := 8) dX11_begins_121 (q := 123) rfl (by decide) ?_
            refine q_iload_n hJ dX11_begins_123 (q := 124) rfl rfl ?_
            refine q_imul hJ dX11_begins_124 (q := 125) rfl ?_
            refine q_iconst hJ (v := 2) dX11_begins_125 (q := 126) rfl (by decide) ?_
            refine q_iadd hJ dX11_begins_126 (q := 127) rfl ?_
            refine q_iload hJ dX11_begins_127 (q := 129) rfl rfl ?_
            refine q_iadd hJ dX11_begins_129 (q := 130) rfl ?_
            refine q_iload hJ dX11_begins_130 (q := 132) rfl rfl ?_
            refine q_iconst hJ (v := 1) dX11_begins_132 (q := 133) rfl (by decide) ?_
            refine q_icmp_ne hJ (tgt := 147) dX11_begins_133 (q := 136) rfl (by decide) (fun c6 => absurd rfl c6) (fun _ => ?_)
            refine q_iload hJ dX11_begins_136 (q := 138) rfl rfl ?_
            refine q_iload_n hJ dX11_begins_138 (q := 139) rfl rfl ?_
            refine q_icmp_ne hJ (tgt := 147) dX11_begins_139 (q := 142) rfl (by decide) (fun c7 => ?_) (fun c7 => ?_)
            · refine q_aload_n hJ dX11_begins_147 (q := 148) rfl rfl (by first | rfl | exact isR_rr _) ?_
              refine q_getR hJ dX11_begins_148 (q := 151) rfl fl_X11_7 rfl (by first | exact ka317 | exact ka318 | exact ka319 | exact ka320 | exact ka321 | exact ka322) (by assumption) rfl ?_
              refine q_iload hJ dX11_begins_151 (q := 153) rfl rfl ?_
              refine q_iconst hJ (v := 1) dX11_begins_153 (q := 154) rfl (by decide) ?_
              refine q_iadd hJ dX11_begins_154 (q := 155) rfl ?_
              refine q_iload hJ dX11_begins_155 (q := 157) rfl rfl ?_
              refine q_iadd hJ dX11_begins_157 (q := 158) rfl ?_
              refine q_iald hJ dX11_begins_158 (q := 159) rfl (by first | exact ka317 | exact ka318 | exact ka319 | exact ka320 | exact ka321 | exact ka322) (ixE (j := p + 1 + 4 * j + 1 + t) (by ((try simp only [nIl_add, nI_mul, nIl_0, nIl_1, nIl_2, nIl_3, nIl_4, nIl_5, nIl_6, nIl_7, nIl_8, nIl_9, nIl_10, nIl_11, nIl_12, nIl_20, nIl_60, nIl_72, nIl_80, nIl_81, nIl_82, nIl_99, nIl_100, nIl_226, nIl_227, nIl_228, nIl_229, nIl_230, nIl_231, nIl_232, nIl_233, nIl_413, nIl_1239, nIl_10000]) <;> first | done | rfl | exact congrArg nI (by omega))) (by omega) (by decide)) (show _ = aK (xA X) i (1 + t) by rw [fw_o (by decide), e318, Nat.add_assoc (p + 1 + 4 * j) 1 t]; exact he _ (by omega)) ?_
              refine q_iast hJ dX11_begins_159 (q := 160) rfl (by first | exact ka317 | exact ka318 | exact ka319 | exact ka320 | exact ka321 | exact ka322) (ixE (j := 8 * d + 2 + t) (by ((try simp only [nIl_add, nI_mul, nIl_0, nIl_1, nIl_2, nIl_3, nIl_4, nIl_5, nIl_6, nIl_7, nIl_8, nIl_9, nIl_10, nIl_11, nIl_12, nIl_20, nIl_60, nIl_72, nIl_80, nIl_81, nIl_82, nIl_99, nIl_100, nIl_226, nIl_227, nIl_228, nIl_229, nIl_230, nIl_231, nIl_232, nIl_233, nIl_413, nIl_1239, nIl_10000]) <;> first | done | rfl | exact congrArg nI (by omega))) (by omega) (by decide)) ?_
              refine q_iinc hJ dX11_begins_160 (q := 163) rfl (by decide) rfl (nI_1 t) ?_
              refine q_goto hJ (tgt := 106) dX11_begins_163 (by decide) ?_
              first
                | (have e7 : t = a := (nI_eq (by omega) (by omega)).mp c7
                   have hv7 : img2 (1 + t) = v := by rw [hi2 (1 + t) (by omega), e7, if_pos rfl]
                   have hs : up2 (fw I2 322 (8 * d + 2) (fun s => img2 (1 + s)) t) 322 (8 * d + 2 + t) (v) = fw I2 322 (8 * d + 2) (fun s => img2 (1 + s)) (t + 1) := by rw [← hv7]; exact fw_step
                   rw [hs]
                   exact ih (t + 1) (by omega))
                | (have e7 : ¬ t = a := fun z => absurd (congrArg nI z) c7
                   have hv7 : img2 (1 + t) = aK (xA X) i (1 + t) := by rw [hi2 (1 + t) (by omega), if_neg (by omega)]
                   have hs : up2 (fw I2 322 (8 * d + 2) (fun s => img2 (1 + s)) t) 322 (8 * d + 2 + t) (aK (xA X) i (1 + t)) = fw I2 322 (8 * d + 2) (fun s => img2 (1 + s)) (t + 1) := by rw [← hv7]; exact fw_step
                   rw [hs]
                   exact ih (t + 1) (by omega))
            · refine q_iload hJ dX11_begins_142 (q := 144) rfl rfl ?_
              refine q_goto hJ (tgt := 159) dX11_begins_144 (by decide) ?_
              refine q_iast hJ dX11_begins_159 (q := 160) rfl (by first | exact ka317 | exact ka318 | exact ka319 | exact ka320 | exact ka321 | exact ka322) (ixE (j := 8 * d + 2 + t) (by ((try simp only [nIl_add, nI_mul, nIl_0, nIl_1, nIl_2, nIl_3, nIl_4, nIl_5, nIl_6, nIl_7, nIl_8, nIl_9, nIl_10, nIl_11, nIl_12, nIl_20, nIl_60, nIl_72, nIl_80, nIl_81, nIl_82, nIl_99, nIl_100, nIl_226, nIl_227, nIl_228, nIl_229, nIl_230, nIl_231, nIl_232, nIl_233, nIl_413, nIl_1239, nIl_10000]) <;> first | done | rfl | exact congrArg nI (by omega))) (by omega) (by decide)) ?_
              refine q_iinc hJ dX11_begins_160 (q := 163) rfl (by decide) rfl (nI_1 t) ?_
              refine q_goto hJ (tgt := 106) dX11_begins_163 (by decide) ?_
              first
                | (have e7 : t = a := (nI_eq (by omega) (by omega)).mp c7
                   have hv7 : img2 (1 + t) = v := by rw [hi2 (1 + t) (by omega), e7, if_pos rfl]
                   have hs : up2 (fw I2 322 (8 * d + 2) (fun s => img2 (1 + s)) t) 322 (8 * d + 2 + t) (v) = fw I2 322 (8 * d + 2) (fun s => img2 (1 + s)) (t + 1) := by rw [← hv7]; exact fw_step
                   rw [hs]
                   exact ih (t + 1) (by omega))
                | (have e7 : ¬ t = a := fun z => absurd (congrArg nI z) c7
                   have hv7 : img2 (1 + t) = aK (xA X) i (1 + t) := by rw [hi2 (1 + t) (by omega), if_neg (by omega)]
                   have hs : up2 (fw I2 322 (8 * d + 2) (fun s => img2 (1 + s)) t) 322 (8 * d + 2 + t) (aK (xA X) i (1 + t)) = fw I2 322 (8 * d + 2) (fun s => img2 (1 + s)) (t + 1) := by rw [← hv7]; exact fw_step
                   rw [hs]
                   exact ih (t + 1) (by omega))
        refine q_aload_n hJ dX11_begins_72 (q := 73) rfl rfl (by first | rfl | exact isR_rr _) ?_
        refine q_getR hJ dX11_begins_73 (q := 76) rfl fl_X11_22 rfl (by first | exact ka317 | exact ka318 | exact ka319 | exact ka320 | exact ka321 | exact ka322) (by assumption) rfl ?_
        refine q_bipush hJ (v := 8) dX11_begins_76 (q := 78) rfl (by decide) ?_
        refine q_iload_n hJ dX11_begins_78 (q := 79) rfl rfl ?_
        refine q_imul hJ dX11_begins_79 (q := 80) rfl ?_
        refine q_iconst hJ (v := 0) dX11_begins_80 (q := 81) rfl (by decide) ?_
        refine q_iadd hJ dX11_begins_81 (q := 82) rfl ?_
        refine q_iald hJ dX11_begins_82 (q := 83) rfl (by first | exact ka317 | exact ka318 | exact ka319 | exact ka320 | exact ka321 | exact ka322) (ixE (j := 8 * d + 0) (by ((try simp only [nIl_add, nI_mul, nIl_0, nIl_1, nIl_2, nIl_3, nIl_4, nIl_5, nIl_6, nIl_7, nIl_8, nIl_9, nIl_10, nIl_11, nIl_12, nIl_20, nIl_60, nIl_72, nIl_80, nIl_81, nIl_82, nIl_99, nIl_100, nIl_226, nIl_227, nIl_228, nIl_229, nIl_230, nIl_231, nIl_232, nIl_233, nIl_413, nIl_1239, nIl_10000]) <;> first | done | rfl | exact congrArg nI (by omega))) (by omega) (by decide)) (show _ = 1 by rw [e322]; exact hev) ?_
        refine q_istore hJ dX11_begins_83 (q := 85) rfl (by decide) ?_
        refine q_aload_n hJ dX11_begins_85 (q := 86) rfl rfl (by first | rfl | exact isR_rr _) ?_
        refine q_iload_n hJ dX11_begins_86 (q := 87) rfl rfl ?_
        refine q_aload_n hJ dX11_begins_87 (q := 88) rfl rfl (by first | rfl | exact isR_rr _) ?_
        refine q_getR hJ dX11_begins_88 (q := 91) rfl fl_X11_22 rfl (by first | exact ka317 | exact ka318 | exact ka319 | exact ka320 | exact ka321 | exact ka322) (by assumption) rfl ?_
        refine q_bipush hJ (v := 8) dX11_begins_91 (q := 93) rfl (by decide) ?_
        refine q_iload_n hJ dX11_begins_93 (q := 94) rfl rfl ?_
        refine q_imul hJ dX11_begins_94 (q := 95) rfl ?_
        refine q_iconst hJ (v := 1) dX11_begins_95 (q := 96) rfl (by decide) ?_
        refine q_iadd hJ dX11_begins_96 (q := 97) rfl ?_
        refine q_iald hJ dX11_begins_97 (q := 98) rfl (by first | exact ka317 | exact ka318 | exact ka319 | exact ka320 | exact ka321 | exact ka322) (ixE (j := 8 * d + 1) (by ((try simp only [nIl_add, nI_mul, nIl_0, nIl_1, nIl_2, nIl_3, nIl_4, nIl_5, nIl_6, nIl_7, nIl_8, nIl_9, nIl_10, nIl_11, nIl_12, nIl_20, nIl_60, nIl_72, nIl_80, nIl_81, nIl_82, nIl_99, nIl_100, nIl_226, nIl_227, nIl_228, nIl_229, nIl_230, nIl_231, nIl_232, nIl_233, nIl_413, nIl_1239, nIl_10000]) <;> first | done | rfl | exact congrArg nI (by omega))) (by omega) (by decide)) (show _ = key by rw [e322]; exact hk) ?_
        refine q_callV hJ dX11_begins_98 (q := 101) rfl (M_rowOf I2 R p (aN (xA X)) key hp (by rw [e318]; exact hR.1) hR.2.1 hFR) imX11_rowOf ln_X11_54 (by first | exact ka317 | exact ka318 | exact ka319 | exact ka320 | exact ka321 | exact ka322) (by decide) rfl rfl rfl rfl (Nat.le_of_ble_eq_true rfl) (by decide) (by decide) rfl rfl (fun rv gv Iv Rv hv => ?_)
        obtain ⟨rfl, rfl, rfl, rfl⟩ := hv
        rw [e318]
        rw [hm, show rwI p (some j) = nI (p + 1 + 4 * j) from rfl]
        refine q_istore hJ dX11_begins_101 (q := 103) rfl (by decide) ?_
        refine q_iconst hJ (v := 0) dX11_begins_103 (q := 104) rfl (by decide) ?_
        refine q_istore hJ dX11_begins_104 (q := 106) rfl (by decide) ?_
        have h0 := loop 3 0 rfl
        rw [fw_0] at h0
        exact h0
      · obtain ⟨i, hf, hi2, hi0⟩ := bg_del hb
        rw [hkey] at hf
        obtain ⟨j, hj, hm, he⟩ := hR.some hok.1 hf
        have hj20 := hR.2.1
        have loop : ∀ (k t : Nat), k + t = 3 → J 0 0 106 [some (.ref 317), some (.int (nI p)), some (.int (nI d)), some (.int (nI a)), some (.int v), some (.int 2), some (.int (nI (p + 1 + 4 * j))), some (.int (nI t))] [] g0 (fw I2 322 (8 * d + 2) (fun s => img2 (1 + s)) t) R := by
          intro k
          induction k with
          | zero =>
            intro t hm2
            refine q_iload hJ dX11_begins_106 (q := 108) rfl rfl ?_
            refine q_iconst hJ (v := 3) dX11_begins_108 (q := 109) rfl (by decide) ?_
            refine q_icmp_ge hJ (tgt := 166) dX11_begins_109 (q := 112) rfl (by decide) (fun _ => ?_) (fun c3 => absurd ((nI_leI (a := 3) (b := t) (by omega) (by omega)).mpr (by omega)) c3)
            refine q_aload_n hJ dX11_begins_166 (q := 167) rfl rfl (by first | rfl | exact isR_rr _) ?_
            refine q_getR hJ dX11_begins_167 (q := 170) rfl fl_X11_22 rfl (by first | exact ka317 | exact ka318 | exact ka319 | exact ka320 | exact ka321 | exact ka322) (by assumption) rfl ?_
            refine q_bipush hJ (v := 8) dX11_begins_170 (q := 172) rfl (by decide) ?_
            refine q_iload_n hJ dX11_begins_172 (q := 173) rfl rfl ?_
            refine q_imul hJ dX11_begins_173 (q := 174) rfl ?_
            refine q_iconst hJ (v := 5) dX11_begins_174 (q := 175) rfl (by decide) ?_
            refine q_iadd hJ dX11_begins_175 (q := 176) rfl ?_
            refine q_iconst hJ (v := 0) dX11_begins_176 (q := 177) rfl (by decide) ?_
            refine q_iast hJ dX11_begins_177 (q := 178) rfl (by first | exact ka317 | exact ka318 | exact ka319 | exact ka320 | exact ka321 | exact ka322) (ixE (j := 8 * d + 5) (by ((try simp only [nIl_add, nI_mul, nIl_0, nIl_1, nIl_2, nIl_3, nIl_4, nIl_5, nIl_6, nIl_7, nIl_8, nIl_9, nIl_10, nIl_11, nIl_12, nIl_20, nIl_60, nIl_72, nIl_80, nIl_81, nIl_82, nIl_99, nIl_100, nIl_226, nIl_227, nIl_228, nIl_229, nIl_230, nIl_231, nIl_232, nIl_233, nIl_413, nIl_1239, nIl_10000]) <;> first | done | rfl | exact congrArg nI (by omega))) (by omega) (by decide)) ?_
            refine q_aload_n hJ dX11_begins_178 (q := 179) rfl rfl (by first | rfl | exact isR_rr _) ?_
            refine q_getR hJ dX11_begins_179 (q := 182) rfl fl_X11_22 rfl (by first | exact ka317 | exact ka318 | exact ka319 | exact ka320 | exact ka321 | exact ka322) (by assumption) rfl ?_
            refine q_bipush hJ (v := 8) dX11_begins_182 (q := 184) rfl (by decide) ?_
            refine q_iload_n hJ dX11_begins_184 (q := 185) rfl rfl ?_
            refine q_imul hJ dX11_begins_185 (q := 186) rfl ?_
            refine q_bipush hJ (v := 6) dX11_begins_186 (q := 188) rfl (by decide) ?_
            refine q_iadd hJ dX11_begins_188 (q := 189) rfl ?_
            refine q_iconst hJ (v := 0) dX11_begins_189 (q := 190) rfl (by decide) ?_
            refine q_iast hJ dX11_begins_190 (q := 191) rfl (by first | exact ka317 | exact ka318 | exact ka319 | exact ka320 | exact ka321 | exact ka322) (ixE (j := 8 * d + 6) (by ((try simp only [nIl_add, nI_mul, nIl_0, nIl_1, nIl_2, nIl_3, nIl_4, nIl_5, nIl_6, nIl_7, nIl_8, nIl_9, nIl_10, nIl_11, nIl_12, nIl_20, nIl_60, nIl_72, nIl_80, nIl_81, nIl_82, nIl_99, nIl_100, nIl_226, nIl_227, nIl_228, nIl_229, nIl_230, nIl_231, nIl_232, nIl_233, nIl_413, nIl_1239, nIl_10000]) <;> first | done | rfl | exact congrArg nI (by omega))) (by omega) (by decide)) ?_
            refine q_iconst hJ (v := 1) dX11_begins_191 (q := 192) rfl (by decide) ?_
            refine q_iret hM dX11_begins_192 rfl (by (first | decide | assumption)) ?_
            have et : t = 3 := by omega
            subst et
            refine ⟨rfl, rfl, (((hkp.tr ⟨fun a _ _ h3 => fw_o h3, fun _ _ => congrFun (fw_o (by decide)) _, fun _ _ => congrFun (fw_o (by decide)) _⟩).u322 _ _).u322 _ _), fun k hk2 => by rw [up2_i (by omega), up2_i (by omega), fw_out (by omega), e322], Or.inr ⟨img2, hb, Or.inr ⟨ho, rfl, (he2.of (fun k _ _ => by rw [up2_i (by omega), up2_i (by omega), fw_o (by decide)]) (fun k _ _ => by rw [up2_i (by omega), up2_i (by omega), fw_o (by decide)])), by rw [up2_i (by omega), up2_i (by omega), fw_out (by omega), e322]; exact hev, fun s hs => ?_, by rw [up2_i (by omega), up2_self], by rw [up2_self], by rw [up2_i (by omega), up2_i (by omega), fw_out (by omega), e322]; exact hca⟩⟩⟩
            by_cases e0 : s = 0
            · rw [e0, up2_i (by omega), up2_i (by omega), fw_out (by omega), e322, hi0]; exact hi 0 (by decide)
            · rw [up2_i (by omega), up2_i (by omega), fw_eq (by omega) (by omega)]; congr 1; omega
          | succ k ih =>
            intro t hm2
            refine q_iload hJ dX11_begins_106 (q := 108) rfl rfl ?_
            refine q_iconst hJ (v := 3) dX11_begins_108 (q := 109) rfl (by decide) ?_
            refine q_icmp_ge hJ (tgt := 166) dX11_begins_109 (q := 112) rfl (by decide) (fun c3 => absurd ((nI_leI (a := 3) (b := t) (by omega) (by omega)).mp c3) (by omega)) (fun _ => ?_)
            refine q_iload hJ dX11_begins_112 (q := 114) rfl rfl ?_
            refine q_if_eq hJ (tgt := 166) dX11_begins_114 (q := 117) rfl (by decide) (fun c4 => absurd c4 (by decide)) (fun _ => ?_)
            refine q_aload_n hJ dX11_begins_117 (q := 118) rfl rfl (by first | rfl | exact isR_rr _) ?_
            refine q_getR hJ dX11_begins_118 (q := 121) rfl fl_X11_22 rfl (by first | exact ka317 | exact ka318 | exact ka319 | exact ka320 | exact ka321 | exact ka322) (by assumption) rfl ?_
            refine q_bipush hJ (v := 8) dX11_begins_121 (q := 123) rfl (by decide) ?_
            refine q_iload_n hJ dX11_begins_123 (q := 124) rfl rfl ?_
            refine q_imul hJ dX11_begins_124 (q := 125) rfl ?_
            refine q_iconst hJ (v := 2) dX11_begins_125 (q := 126) rfl (by decide) ?_
            refine q_iadd hJ dX11_begins_126 (q := 127) rfl ?_
            refine q_iload hJ dX11_begins_127 (q := 129) rfl rfl ?_
            refine q_iadd hJ dX11_begins_129 (q := 130) rfl ?_
            refine q_iload hJ dX11_begins_130 (q := 132) rfl rfl ?_
            refine q_iconst hJ (v := 1) dX11_begins_132 (q := 133) rfl (by decide) ?_
            refine q_icmp_ne hJ (tgt := 147) dX11_begins_133 (q := 136) rfl (by decide) (fun _ => ?_) (fun c6 => absurd c6 (by decide))
            refine q_aload_n hJ dX11_begins_147 (q := 148) rfl rfl (by first | rfl | exact isR_rr _) ?_
            refine q_getR hJ dX11_begins_148 (q := 151) rfl fl_X11_7 rfl (by first | exact ka317 | exact ka318 | exact ka319 | exact ka320 | exact ka321 | exact ka322) (by assumption) rfl ?_
            refine q_iload hJ dX11_begins_151 (q := 153) rfl rfl ?_
            refine q_iconst hJ (v := 1) dX11_begins_153 (q := 154) rfl (by decide) ?_
            refine q_iadd hJ dX11_begins_154 (q := 155) rfl ?_
            refine q_iload hJ dX11_begins_155 (q := 157) rfl rfl ?_
            refine q_iadd hJ dX11_begins_157 (q := 158) rfl ?_
            refine q_iald hJ dX11_begins_158 (q := 159) rfl (by first | exact ka317 | exact ka318 | exact ka319 | exact ka320 | exact ka321 | exact ka322) (ixE (j := p + 1 + 4 * j + 1 + t) (by ((try simp only [nIl_add, nI_mul, nIl_0, nIl_1, nIl_2, nIl_3, nIl_4, nIl_5, nIl_6, nIl_7, nIl_8, nIl_9, nIl_10, nIl_11, nIl_12, nIl_20, nIl_60, nIl_72, nIl_80, nIl_81, nIl_82, nIl_99, nIl_100, nIl_226, nIl_227, nIl_228, nIl_229, nIl_230, nIl_231, nIl_232, nIl_233, nIl_413, nIl_1239, nIl_10000]) <;> first | done | rfl | exact congrArg nI (by omega))) (by omega) (by decide)) (show _ = aK (xA X) i (1 + t) by rw [fw_o (by decide), e318, Nat.add_assoc (p + 1 + 4 * j) 1 t]; exact he _ (by omega)) ?_
            refine q_iast hJ dX11_begins_159 (q := 160) rfl (by first | exact ka317 | exact ka318 | exact ka319 | exact ka320 | exact ka321 | exact ka322) (ixE (j := 8 * d + 2 + t) (by ((try simp only [nIl_add, nI_mul, nIl_0, nIl_1, nIl_2, nIl_3, nIl_4, nIl_5, nIl_6, nIl_7, nIl_8, nIl_9, nIl_10, nIl_11, nIl_12, nIl_20, nIl_60, nIl_72, nIl_80, nIl_81, nIl_82, nIl_99, nIl_100, nIl_226, nIl_227, nIl_228, nIl_229, nIl_230, nIl_231, nIl_232, nIl_233, nIl_413, nIl_1239, nIl_10000]) <;> first | done | rfl | exact congrArg nI (by omega))) (by omega) (by decide)) ?_
            refine q_iinc hJ dX11_begins_160 (q := 163) rfl (by decide) rfl (nI_1 t) ?_
            refine q_goto hJ (tgt := 106) dX11_begins_163 (by decide) ?_
            rw [show aK (xA X) i (1 + t) = img2 (1 + t) by rw [hi2 (1 + t) (by omega)], fw_step]
            exact ih (t + 1) (by omega)
        refine q_aload_n hJ dX11_begins_72 (q := 73) rfl rfl (by first | rfl | exact isR_rr _) ?_
        refine q_getR hJ dX11_begins_73 (q := 76) rfl fl_X11_22 rfl (by first | exact ka317 | exact ka318 | exact ka319 | exact ka320 | exact ka321 | exact ka322) (by assumption) rfl ?_
        refine q_bipush hJ (v := 8) dX11_begins_76 (q := 78) rfl (by decide) ?_
        refine q_iload_n hJ dX11_begins_78 (q := 79) rfl rfl ?_
        refine q_imul hJ dX11_begins_79 (q := 80) rfl ?_
        refine q_iconst hJ (v := 0) dX11_begins_80 (q := 81) rfl (by decide) ?_
        refine q_iadd hJ dX11_begins_81 (q := 82) rfl ?_
        refine q_iald hJ dX11_begins_82 (q := 83) rfl (by first | exact ka317 | exact ka318 | exact ka319 | exact ka320 | exact ka321 | exact ka322) (ixE (j := 8 * d + 0) (by ((try simp only [nIl_add, nI_mul, nIl_0, nIl_1, nIl_2, nIl_3, nIl_4, nIl_5, nIl_6, nIl_7, nIl_8, nIl_9, nIl_10, nIl_11, nIl_12, nIl_20, nIl_60, nIl_72, nIl_80, nIl_81, nIl_82, nIl_99, nIl_100, nIl_226, nIl_227, nIl_228, nIl_229, nIl_230, nIl_231, nIl_232, nIl_233, nIl_413, nIl_1239, nIl_10000]) <;> first | done | rfl | exact congrArg nI (by omega))) (by omega) (by decide)) (show _ = 2 by rw [e322]; exact hev) ?_
        refine q_istore hJ dX11_begins_83 (q := 85) rfl (by decide) ?_
        refine q_aload_n hJ dX11_begins_85 (q := 86) rfl rfl (by first | rfl | exact isR_rr _) ?_
        refine q_iload_n hJ dX11_begins_86 (q := 87) rfl rfl ?_
        refine q_aload_n hJ dX11_begins_87 (q := 88) rfl rfl (by first | rfl | exact isR_rr _) ?_
        refine q_getR hJ dX11_begins_88 (q := 91) rfl fl_X11_22 rfl (by first | exact ka317 | exact ka318 | exact ka319 | exact ka320 | exact ka321 | exact ka322) (by assumption) rfl ?_
        refine q_bipush hJ (v := 8) dX11_begins_91 (q := 93) rfl (by decide) ?_
        refine q_iload_n hJ dX11_begins_93 (q := 94) rfl rfl ?_
        refine q_imul hJ dX11_begins_94 (q := 95) rfl ?_
        refine q_iconst hJ (v := 1) dX11_begins_95 (q := 96) rfl (by decide) ?_
        refine q_iadd hJ dX11_begins_96 (q := 97) rfl ?_
        refine q_iald hJ dX11_begins_97 (q := 98) rfl (by first | exact ka317 | exact ka318 | exact ka319 | exact ka320 | exact ka321 | exact ka322) (ixE (j := 8 * d + 1) (by ((try simp only [nIl_add, nI_mul, nIl_0, nIl_1, nIl_2, nIl_3, nIl_4, nIl_5, nIl_6, nIl_7, nIl_8, nIl_9, nIl_10, nIl_11, nIl_12, nIl_20, nIl_60, nIl_72, nIl_80, nIl_81, nIl_82, nIl_99, nIl_100, nIl_226, nIl_227, nIl_228, nIl_229, nIl_230, nIl_231, nIl_232, nIl_233, nIl_413, nIl_1239, nIl_10000]) <;> first | done | rfl | exact congrArg nI (by omega))) (by omega) (by decide)) (show _ = key by rw [e322]; exact hk) ?_
        refine q_callV hJ dX11_begins_98 (q := 101) rfl (M_rowOf I2 R p (aN (xA X)) key hp (by rw [e318]; exact hR.1) hR.2.1 hFR) imX11_rowOf ln_X11_54 (by first | exact ka317 | exact ka318 | exact ka319 | exact ka320 | exact ka321 | exact ka322) (by decide) rfl rfl rfl rfl (Nat.le_of_ble_eq_true rfl) (by decide) (by decide) rfl rfl (fun rv gv Iv Rv hv => ?_)
        obtain ⟨rfl, rfl, rfl, rfl⟩ := hv
        rw [e318]
        rw [hm, show rwI p (some j) = nI (p + 1 + 4 * j) from rfl]
        refine q_istore hJ dX11_begins_101 (q := 103) rfl (by decide) ?_
        refine q_iconst hJ (v := 0) dX11_begins_103 (q := 104) rfl (by decide) ?_
        refine q_istore hJ dX11_begins_104 (q := 106) rfl (by decide) ?_
        have h0 := loop 3 0 rfl
        rw [fw_0] at h0
        exact h0
    refine q_aload_n hJ dX11_begins_0 (q := 1) rfl rfl (by first | rfl | exact isR_rr _) ?_
    refine q_iload_n hJ dX11_begins_1 (q := 2) rfl rfl ?_
    refine q_iload_n hJ dX11_begins_2 (q := 3) rfl rfl ?_
    refine q_iload_n hJ dX11_begins_3 (q := 4) rfl rfl ?_
    refine q_iload hJ dX11_begins_4 (q := 6) rfl rfl ?_
    refine q_callV hJ dX11_begins_6 (q := 9) rfl (M_isNothing p d a hp hd ha ev key v (xA X) I R hFR hR hok.1 hE hev hk) imX11_isNothing ln_X11_61 (by first | exact ka317 | exact ka318 | exact ka319 | exact ka320 | exact ka321 | exact ka322) (by decide) rfl rfl rfl rfl (Nat.le_of_ble_eq_true rfl) (by decide) (by decide) rfl rfl (fun rv gv Iv Rv hv => ?_)
    obtain ⟨rfl, rfl, rfl, rfl⟩ := hv
    rw [hnt]
    refine q_if_eq hJ (tgt := 14) dX11_begins_9 (q := 12) rfl (by decide) (fun _ => ?_) (fun c1 => absurd rfl c1)
    refine q_aload_n hJ dX11_begins_14 (q := 15) rfl rfl (by first | rfl | exact isR_rr _) ?_
    refine q_getI hJ dX11_begins_15 (q := 18) rfl fl_X11_64 rfl (by first | exact ka317 | exact ka318 | exact ka319 | exact ka320 | exact ka321 | exact ka322) hc.1 ?_
    refine q_bipush hJ (v := 100) dX11_begins_18 (q := 20) rfl (by decide) ?_
    refine q_icmp_ne hJ (tgt := 42) dX11_begins_20 (q := 23) rfl (by decide) (fun _ => ?_) (fun c2 => absurd c2 (fun z => by have := (nI_eq (a := xO X) (b := 100) (by omega) (by decide)).mp z; omega))
    refine q_aload_n hJ dX11_begins_42 (q := 43) rfl rfl (by first | rfl | exact isR_rr _) ?_
    refine q_dup hJ dX11_begins_43 (q := 44) rfl rfl ?_
    refine q_getI hJ dX11_begins_44 (q := 47) rfl fl_X11_64 rfl (by first | exact ka317 | exact ka318 | exact ka319 | exact ka320 | exact ka321 | exact ka322) hc.1 ?_
    refine q_iconst hJ (v := 1) dX11_begins_47 (q := 48) rfl (by decide) ?_
    refine q_iadd hJ dX11_begins_48 (q := 49) rfl ?_
    refine q_putI hJ dX11_begins_49 (q := 52) rfl fl_X11_64 rfl rfl (by first | exact ka317 | exact ka318 | exact ka319 | exact ka320 | exact ka321 | exact ka322) rfl rfl ?_
    refine q_aload_n hJ dX11_begins_52 (q := 53) rfl rfl (by first | rfl | exact isR_rr _) ?_
    refine q_iload_n hJ dX11_begins_53 (q := 54) rfl rfl ?_
    refine q_aload_n hJ dX11_begins_54 (q := 55) rfl rfl (by first | rfl | exact isR_rr _) ?_
    refine q_getI hJ dX11_begins_55 (q := 58) rfl fl_X11_70 rfl (by first | exact ka317 | exact ka318 | exact ka319 | exact ka320 | exact ka321 | exact ka322) (show _ = xD X by rw [up2_i (by omega)]; exact hc.2.2.1) ?_
    refine q_icmp_le hJ (tgt := 65) dX11_begins_58 (q := 61) rfl (by decide) (fun c8 => ?_) (fun c8 => ?_)
    · refine q_aload_n hJ dX11_begins_65 (q := 66) rfl rfl (by first | rfl | exact isR_rr _) ?_
      refine q_getI hJ dX11_begins_66 (q := 69) rfl fl_X11_70 rfl (by first | exact ka317 | exact ka318 | exact ka319 | exact ka320 | exact ka321 | exact ka322) (show _ = xD X by rw [up2_i (by omega)]; exact hc.2.2.1) ?_
      refine q_putI hJ dX11_begins_69 (q := 72) rfl fl_X11_70 rfl rfl (by first | exact ka317 | exact ka318 | exact ka319 | exact ka320 | exact ka321 | exact ka322) rfl rfl ?_
      refine rest _ (fun a h => by rw [up2_other _ _ _ _ h, up2_other _ _ _ _ h]) (hX.beg (fun a h => by rw [up2_other _ _ _ _ h, up2_other _ _ _ _ h]) (by rw [up2_i (by omega), up2_self]) ?_ (fun k h1 h2 => by rw [up2_i (by omega), up2_i (by omega)])) (((Kp.rf p I).u317 (by decide) _).u317 (by decide) _)
      rw [up2_self]
      first | rw [if_pos (Int32.not_le.mp c8)] | rw [if_neg (Int32.not_lt.mpr c8)]
    · refine q_iload_n hJ dX11_begins_61 (q := 62) rfl rfl ?_
      refine q_goto hJ (tgt := 69) dX11_begins_62 (by decide) ?_
      refine q_putI hJ dX11_begins_69 (q := 72) rfl fl_X11_70 rfl rfl (by first | exact ka317 | exact ka318 | exact ka319 | exact ka320 | exact ka321 | exact ka322) rfl rfl ?_
      refine rest _ (fun a h => by rw [up2_other _ _ _ _ h, up2_other _ _ _ _ h]) (hX.beg (fun a h => by rw [up2_other _ _ _ _ h, up2_other _ _ _ _ h]) (by rw [up2_i (by omega), up2_self]) ?_ (fun k h1 h2 => by rw [up2_i (by omega), up2_i (by omega)])) (((Kp.rf p I).u317 (by decide) _).u317 (by decide) _)
      rw [up2_self]
      first | rw [if_pos (Int32.not_le.mp c8)] | rw [if_neg (Int32.not_lt.mpr c8)]

