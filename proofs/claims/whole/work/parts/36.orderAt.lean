/-! THE MODEL: orderAt, the state's relation -/
def RuW (M : Nat → Int32) (p : Nat) (U : Nat → Nat → Int32) (m : Nat) : Prop := M (p + 81) = nI m ∧ m ≤ 12 ∧ ∀ r, r < m → ∀ f, f < 12 → M (p + 82 + 12 * r + f) = U r f
theorem rk_sub {x y : Int32} (hx : ∃ q, q < 100 ∧ x = nI q) (hy : ∃ q, q < 100 ∧ y = nI q) : (x - y < 0 ↔ x < y) ∧ (x - y = 0 ↔ x = y) := by
  obtain ⟨a, ha, rfl⟩ := hx
  obtain ⟨b, hb, rfl⟩ := hy
  have e1 : (nI a - nI b).toInt = (a : Int) - b := by
    rw [Int32.toInt_sub, nI_toInt (by omega), nI_toInt (by omega), Int.bmod_eq_of_le (by omega) (by omega)]
  refine ⟨?_, ?_⟩
  · rw [nI_ltI (by omega) (by omega), Int32.lt_iff_toInt_lt, e1, show (0 : Int32).toInt = 0 from rfl]
    omega
  · rw [nI_eq (by omega) (by omega), ← Int32.toInt_inj, e1, show (0 : Int32).toInt = 0 from rfl]
    omega
set_option maxRecDepth 100000 in
set_option maxHeartbeats 400000 in
theorem M_orderAt (p m : Nat) (U : Nat → Nat → Int32) (e mo w : Int32) (I : MI) (R : MR) (hFR : FR R) (hp : p ≤ 413) (hU : RuW (I 318) p U m) (hrk : ∀ r, r < m → ∃ q, q < 100 ∧ U r 2 = nI q) : Sp 2 0 0 mX11_orderAt [.ref 317, .int (nI p), .int e, .int mo, .int w] g0 I R (Mv (noI (amF (fun r => U r 0 = e ∧ U r 1 = mo) (osrt (rkF U) m) w 0 m 0)) I R) := by
  have hm0 := hFR.2.2.2.2.2.1
  have hm1 := hFR.2.2.2.2.2.2.1
  have hm3 := hFR.2.2.2.2.2.2.2.1
  have hm5 := hFR.2.2.2.2.2.2.2.2.1
  have hm7 := hFR.2.2.2.2.2.2.2.2.2
  have hm12 := hU.2.1
  refine Sp.on (by decide +kernel) rfl rfl (fun J hM => ?_)
  have hJ := hM.ok
  have inner : ∀ r, r < m → (∀ a b, J 0 0 111 [some (.ref 317), some (.int (nI p)), some (.int e), some (.int mo), some (.int w), some (.int (nI r)), some (.int (nI (cnP (fun t => (U t 0 = e ∧ U t 1 = mo) ∧ lexR (rkF U) t r) m))), a, b] [] g0 I R) → ∀ (k j : Nat) (y : Option Value), k + j = m → J 0 0 23 [some (.ref 317), some (.int (nI p)), some (.int e), some (.int mo), some (.int w), some (.int (nI r)), some (.int (nI (cnP (fun t => (U t 0 = e ∧ U t 1 = mo) ∧ lexR (rkF U) t r) j))), some (.int (nI j)), y] [] g0 I R := by
    intro r hr hE k
    induction k with
    | zero =>
      intro j y hm
      refine q_iload hJ dX11_orderAt_23 (q := 25) rfl rfl ?_
      refine q_aload_n hJ dX11_orderAt_25 (q := 26) rfl rfl (by first | rfl | exact isR_rr _) ?_
      refine q_getR hJ dX11_orderAt_26 (q := 29) rfl fl_X11_7 rfl (by first | exact ka317 | exact ka318 | exact ka319 | exact ka320 | exact ka321 | exact ka322) (by assumption) rfl ?_
      refine q_iload_n hJ dX11_orderAt_29 (q := 30) rfl rfl ?_
      refine q_bipush hJ (v := 81) dX11_orderAt_30 (q := 32) rfl (by decide) ?_
      refine q_iadd hJ dX11_orderAt_32 (q := 33) rfl ?_
      refine q_iald hJ dX11_orderAt_33 (q := 34) rfl (by first | exact ka317 | exact ka318 | exact ka319 | exact ka320 | exact ka321 | exact ka322) (ixE (j := p + 81) (by ((try simp only [nIl_add, nI_mul, nIl_0, nIl_1, nIl_2, nIl_3, nIl_4, nIl_5, nIl_6, nIl_7, nIl_8, nIl_9, nIl_10, nIl_11, nIl_12, nIl_20, nIl_60, nIl_72, nIl_80, nIl_81, nIl_82, nIl_99, nIl_100, nIl_226, nIl_227, nIl_228, nIl_229, nIl_230, nIl_231, nIl_232, nIl_233, nIl_413, nIl_1239, nIl_10000]) <;> first | done | rfl | exact congrArg nI (by omega))) (by omega) (by decide)) hU.1 ?_
      refine q_icmp_ge hJ (tgt := 111) dX11_orderAt_34 (q := 37) rfl (by decide) (fun _ => ?_) (fun c5 => absurd ((nI_leI (a := m) (b := j) (by omega) (by omega)).mpr (by omega)) c5)
      have ej : j = m := by omega
      subst ej
      exact hE _ _
    | succ k ih =>
      intro j y hm
      have hs := rk_sub (hrk j (by omega)) (hrk r hr)
      refine q_iload hJ dX11_orderAt_23 (q := 25) rfl rfl ?_
      refine q_aload_n hJ dX11_orderAt_25 (q := 26) rfl rfl (by first | rfl | exact isR_rr _) ?_
      refine q_getR hJ dX11_orderAt_26 (q := 29) rfl fl_X11_7 rfl (by first | exact ka317 | exact ka318 | exact ka319 | exact ka320 | exact ka321 | exact ka322) (by assumption) rfl ?_
      refine q_iload_n hJ dX11_orderAt_29 (q := 30) rfl rfl ?_
      refine q_bipush hJ (v := 81) dX11_orderAt_30 (q := 32) rfl (by decide) ?_
      refine q_iadd hJ dX11_orderAt_32 (q := 33) rfl ?_
      refine q_iald hJ dX11_orderAt_33 (q := 34) rfl (by first | exact ka317 | exact ka318 | exact ka319 | exact ka320 | exact ka321 | exact ka322) (ixE (j := p + 81) (by ((try simp only [nIl_add, nI_mul, nIl_0, nIl_1, nIl_2, nIl_3, nIl_4, nIl_5, nIl_6, nIl_7, nIl_8, nIl_9, nIl_10, nIl_11, nIl_12, nIl_20, nIl_60, nIl_72, nIl_80, nIl_81, nIl_82, nIl_99, nIl_100, nIl_226, nIl_227, nIl_228, nIl_229, nIl_230, nIl_231, nIl_232, nIl_233, nIl_413, nIl_1239, nIl_10000]) <;> first | done | rfl | exact congrArg nI (by omega))) (by omega) (by decide)) hU.1 ?_
      refine q_icmp_ge hJ (tgt := 111) dX11_orderAt_34 (q := 37) rfl (by decide) (fun c5 => absurd ((nI_leI (a := m) (b := j) (by omega) (by omega)).mp c5) (by omega)) (fun _ => ?_)
      refine q_aload_n hJ dX11_orderAt_37 (q := 38) rfl rfl (by first | rfl | exact isR_rr _) ?_
      refine q_getR hJ dX11_orderAt_38 (q := 41) rfl fl_X11_7 rfl (by first | exact ka317 | exact ka318 | exact ka319 | exact ka320 | exact ka321 | exact ka322) (by assumption) rfl ?_
      refine q_iload_n hJ dX11_orderAt_41 (q := 42) rfl rfl ?_
      refine q_iload hJ dX11_orderAt_42 (q := 44) rfl rfl ?_
      refine q_callS hJ dX11_orderAt_44 (q := 47) rfl (M_ruleAt p j I R) imX11_ruleAt ln_X11_40 rfl rfl rfl (Nat.le_of_ble_eq_true rfl) (by decide) (by decide) rfl rfl (fun rv gv Iv Rv hv => ?_)
      obtain ⟨rfl, rfl, rfl, rfl⟩ := hv
      refine q_iconst hJ (v := 2) dX11_orderAt_47 (q := 48) rfl (by decide) ?_
      refine q_iadd hJ dX11_orderAt_48 (q := 49) rfl ?_
      refine q_iald hJ dX11_orderAt_49 (q := 50) rfl (by first | exact ka317 | exact ka318 | exact ka319 | exact ka320 | exact ka321 | exact ka322) (ixE (j := p + 82 + 12 * j + 2) (by ((try simp only [nIl_add, nI_mul, nIl_0, nIl_1, nIl_2, nIl_3, nIl_4, nIl_5, nIl_6, nIl_7, nIl_8, nIl_9, nIl_10, nIl_11, nIl_12, nIl_20, nIl_60, nIl_72, nIl_80, nIl_81, nIl_82, nIl_99, nIl_100, nIl_226, nIl_227, nIl_228, nIl_229, nIl_230, nIl_231, nIl_232, nIl_233, nIl_413, nIl_1239, nIl_10000]) <;> first | done | rfl | exact congrArg nI (by omega))) (by omega) (by decide)) (hU.2.2 j (by omega) 2 (by decide)) ?_
      refine q_aload_n hJ dX11_orderAt_50 (q := 51) rfl rfl (by first | rfl | exact isR_rr _) ?_
      refine q_getR hJ dX11_orderAt_51 (q := 54) rfl fl_X11_7 rfl (by first | exact ka317 | exact ka318 | exact ka319 | exact ka320 | exact ka321 | exact ka322) (by assumption) rfl ?_
      refine q_iload_n hJ dX11_orderAt_54 (q := 55) rfl rfl ?_
      refine q_iload hJ dX11_orderAt_55 (q := 57) rfl rfl ?_
      refine q_callS hJ dX11_orderAt_57 (q := 60) rfl (M_ruleAt p r I R) imX11_ruleAt ln_X11_40 rfl rfl rfl (Nat.le_of_ble_eq_true rfl) (by decide) (by decide) rfl rfl (fun rv gv Iv Rv hv => ?_)
      obtain ⟨rfl, rfl, rfl, rfl⟩ := hv
      refine q_iconst hJ (v := 2) dX11_orderAt_60 (q := 61) rfl (by decide) ?_
      refine q_iadd hJ dX11_orderAt_61 (q := 62) rfl ?_
      refine q_iald hJ dX11_orderAt_62 (q := 63) rfl (by first | exact ka317 | exact ka318 | exact ka319 | exact ka320 | exact ka321 | exact ka322) (ixE (j := p + 82 + 12 * r + 2) (by ((try simp only [nIl_add, nI_mul, nIl_0, nIl_1, nIl_2, nIl_3, nIl_4, nIl_5, nIl_6, nIl_7, nIl_8, nIl_9, nIl_10, nIl_11, nIl_12, nIl_20, nIl_60, nIl_72, nIl_80, nIl_81, nIl_82, nIl_99, nIl_100, nIl_226, nIl_227, nIl_228, nIl_229, nIl_230, nIl_231, nIl_232, nIl_233, nIl_413, nIl_1239, nIl_10000]) <;> first | done | rfl | exact congrArg nI (by omega))) (by omega) (by decide)) (hU.2.2 r (by omega) 2 (by decide)) ?_
      refine q_isub hJ dX11_orderAt_63 (q := 64) rfl ?_
      refine q_istore hJ dX11_orderAt_64 (q := 66) rfl (by decide) ?_
      refine q_iload hJ dX11_orderAt_66 (q := 68) rfl rfl ?_
      refine q_aload_n hJ dX11_orderAt_68 (q := 69) rfl rfl (by first | rfl | exact isR_rr _) ?_
      refine q_iload_n hJ dX11_orderAt_69 (q := 70) rfl rfl ?_
      refine q_iload hJ dX11_orderAt_70 (q := 72) rfl rfl ?_
      refine q_iload_n hJ dX11_orderAt_72 (q := 73) rfl rfl ?_
      refine q_iload_n hJ dX11_orderAt_73 (q := 74) rfl rfl ?_
      refine q_callV hJ dX11_orderAt_74 (q := 77) rfl (M_isOf p j hp (by omega) e mo I R hFR) imX11_isOf ln_X11_44 (by first | exact ka317 | exact ka318 | exact ka319 | exact ka320 | exact ka321 | exact ka322) (by decide) rfl rfl rfl rfl (Nat.le_of_ble_eq_true rfl) (by decide) (by decide) rfl rfl (fun rv gv Iv Rv hv => ?_)
      obtain ⟨rfl, rfl, rfl, rfl⟩ := hv
      rw [hU.2.2 j (by omega) 0 (by decide), hU.2.2 j (by omega) 1 (by decide)]
      refine q_if_eq hJ (tgt := 101) dX11_orderAt_77 (q := 80) rfl (by decide) (fun c1 => ?_) (fun c1 => ?_)
      · refine q_iconst hJ (v := 0) dX11_orderAt_101 (q := 102) rfl (by decide) ?_
        refine q_iadd hJ dX11_orderAt_102 (q := 103) rfl ?_
        refine q_istore hJ dX11_orderAt_103 (q := 105) rfl (by decide) ?_
        refine q_iinc hJ dX11_orderAt_105 (q := 108) rfl (by decide) rfl (nI_1 j) ?_
        refine q_goto hJ (tgt := 23) dX11_orderAt_108 (by decide) ?_
        first
          | (have hP : (U j 0 = e ∧ U j 1 = mo) ∧ lexR (rkF U) j r := by
               have hc : U j 0 = e ∧ U j 1 = mo := Decidable.byContradiction fun z => c1 (if_neg z)
               first | exact ⟨hc, Or.inl (hs.1.mp c2)⟩ | exact ⟨hc, Or.inr ⟨hs.2.mp c3, Nat.lt_of_not_le fun z => c4 ((nI_leI (by omega) (by omega)).mpr z)⟩⟩
             rw [show nI (cnP (fun t => (U t 0 = e ∧ U t 1 = mo) ∧ lexR (rkF U) t r) j) + 1 = nI (cnP (fun t => (U t 0 = e ∧ U t 1 = mo) ∧ lexR (rkF U) t r) (j + 1)) from by
               show _ = nI (cnP (fun t => (U t 0 = e ∧ U t 1 = mo) ∧ lexR (rkF U) t r) j + (if _ then 1 else 0))
               rw [if_pos hP]; exact nI_1 _]
             exact ih (j + 1) _ (by omega))
          | (have hP : ¬ ((U j 0 = e ∧ U j 1 = mo) ∧ lexR (rkF U) j r) := by
               rintro ⟨z1, z2⟩
               first
                 | exact absurd (c1.symm.trans (if_pos z1)) (by decide)
                 | (rcases z2 with z2 | z2
                    · exact c2 (hs.1.mpr z2)
                    · exact c3 (hs.2.mpr z2.1))
                 | (rcases z2 with z2 | z2
                    · exact c2 (hs.1.mpr z2)
                    · have := (nI_leI (by omega) (by omega)).mp c4; omega)
             rw [show nI (cnP (fun t => (U t 0 = e ∧ U t 1 = mo) ∧ lexR (rkF U) t r) j) + 0 = nI (cnP (fun t => (U t 0 = e ∧ U t 1 = mo) ∧ lexR (rkF U) t r) (j + 1)) from by
               show _ = nI (cnP (fun t => (U t 0 = e ∧ U t 1 = mo) ∧ lexR (rkF U) t r) j + (if _ then 1 else 0))
               rw [if_neg hP]; exact Int32.add_zero _]
             exact ih (j + 1) _ (by omega))
      · refine q_iload hJ dX11_orderAt_80 (q := 82) rfl rfl ?_
        refine q_if_lt hJ (tgt := 97) dX11_orderAt_82 (q := 85) rfl (by decide) (fun c2 => ?_) (fun c2 => ?_)
        · refine q_iconst hJ (v := 1) dX11_orderAt_97 (q := 98) rfl (by decide) ?_
          refine q_goto hJ (tgt := 102) dX11_orderAt_98 (by decide) ?_
          refine q_iadd hJ dX11_orderAt_102 (q := 103) rfl ?_
          refine q_istore hJ dX11_orderAt_103 (q := 105) rfl (by decide) ?_
          refine q_iinc hJ dX11_orderAt_105 (q := 108) rfl (by decide) rfl (nI_1 j) ?_
          refine q_goto hJ (tgt := 23) dX11_orderAt_108 (by decide) ?_
          first
            | (have hP : (U j 0 = e ∧ U j 1 = mo) ∧ lexR (rkF U) j r := by
                 have hc : U j 0 = e ∧ U j 1 = mo := Decidable.byContradiction fun z => c1 (if_neg z)
                 first | exact ⟨hc, Or.inl (hs.1.mp c2)⟩ | exact ⟨hc, Or.inr ⟨hs.2.mp c3, Nat.lt_of_not_le fun z => c4 ((nI_leI (by omega) (by omega)).mpr z)⟩⟩
               rw [show nI (cnP (fun t => (U t 0 = e ∧ U t 1 = mo) ∧ lexR (rkF U) t r) j) + 1 = nI (cnP (fun t => (U t 0 = e ∧ U t 1 = mo) ∧ lexR (rkF U) t r) (j + 1)) from by
                 show _ = nI (cnP (fun t => (U t 0 = e ∧ U t 1 = mo) ∧ lexR (rkF U) t r) j + (if _ then 1 else 0))
                 rw [if_pos hP]; exact nI_1 _]
               exact ih (j + 1) _ (by omega))
            | (have hP : ¬ ((U j 0 = e ∧ U j 1 = mo) ∧ lexR (rkF U) j r) := by
                 rintro ⟨z1, z2⟩
                 first
                   | exact absurd (c1.symm.trans (if_pos z1)) (by decide)
                   | (rcases z2 with z2 | z2
                      · exact c2 (hs.1.mpr z2)
                      · exact c3 (hs.2.mpr z2.1))
                   | (rcases z2 with z2 | z2
                      · exact c2 (hs.1.mpr z2)
                      · have := (nI_leI (by omega) (by omega)).mp c4; omega)
               rw [show nI (cnP (fun t => (U t 0 = e ∧ U t 1 = mo) ∧ lexR (rkF U) t r) j) + 0 = nI (cnP (fun t => (U t 0 = e ∧ U t 1 = mo) ∧ lexR (rkF U) t r) (j + 1)) from by
                 show _ = nI (cnP (fun t => (U t 0 = e ∧ U t 1 = mo) ∧ lexR (rkF U) t r) j + (if _ then 1 else 0))
                 rw [if_neg hP]; exact Int32.add_zero _]
               exact ih (j + 1) _ (by omega))
        · refine q_iload hJ dX11_orderAt_85 (q := 87) rfl rfl ?_
          refine q_if_ne hJ (tgt := 101) dX11_orderAt_87 (q := 90) rfl (by decide) (fun c3 => ?_) (fun c3 => ?_)
          · refine q_iconst hJ (v := 0) dX11_orderAt_101 (q := 102) rfl (by decide) ?_
            refine q_iadd hJ dX11_orderAt_102 (q := 103) rfl ?_
            refine q_istore hJ dX11_orderAt_103 (q := 105) rfl (by decide) ?_
            refine q_iinc hJ dX11_orderAt_105 (q := 108) rfl (by decide) rfl (nI_1 j) ?_
            refine q_goto hJ (tgt := 23) dX11_orderAt_108 (by decide) ?_
            first
              | (have hP : (U j 0 = e ∧ U j 1 = mo) ∧ lexR (rkF U) j r := by
                   have hc : U j 0 = e ∧ U j 1 = mo := Decidable.byContradiction fun z => c1 (if_neg z)
                   first | exact ⟨hc, Or.inl (hs.1.mp c2)⟩ | exact ⟨hc, Or.inr ⟨hs.2.mp c3, Nat.lt_of_not_le fun z => c4 ((nI_leI (by omega) (by omega)).mpr z)⟩⟩
                 rw [show nI (cnP (fun t => (U t 0 = e ∧ U t 1 = mo) ∧ lexR (rkF U) t r) j) + 1 = nI (cnP (fun t => (U t 0 = e ∧ U t 1 = mo) ∧ lexR (rkF U) t r) (j + 1)) from by
                   show _ = nI (cnP (fun t => (U t 0 = e ∧ U t 1 = mo) ∧ lexR (rkF U) t r) j + (if _ then 1 else 0))
                   rw [if_pos hP]; exact nI_1 _]
                 exact ih (j + 1) _ (by omega))
              | (have hP : ¬ ((U j 0 = e ∧ U j 1 = mo) ∧ lexR (rkF U) j r) := by
                   rintro ⟨z1, z2⟩
                   first
                     | exact absurd (c1.symm.trans (if_pos z1)) (by decide)
                     | (rcases z2 with z2 | z2
                        · exact c2 (hs.1.mpr z2)
                        · exact c3 (hs.2.mpr z2.1))
                     | (rcases z2 with z2 | z2
                        · exact c2 (hs.1.mpr z2)
                        · have := (nI_leI (by omega) (by omega)).mp c4; omega)
                 rw [show nI (cnP (fun t => (U t 0 = e ∧ U t 1 = mo) ∧ lexR (rkF U) t r) j) + 0 = nI (cnP (fun t => (U t 0 = e ∧ U t 1 = mo) ∧ lexR (rkF U) t r) (j + 1)) from by
                   show _ = nI (cnP (fun t => (U t 0 = e ∧ U t 1 = mo) ∧ lexR (rkF U) t r) j + (if _ then 1 else 0))
                   rw [if_neg hP]; exact Int32.add_zero _]
                 exact ih (j + 1) _ (by omega))
          · refine q_iload hJ dX11_orderAt_90 (q := 92) rfl rfl ?_
            refine q_iload hJ dX11_orderAt_92 (q := 94) rfl rfl ?_
            refine q_icmp_ge hJ (tgt := 101) dX11_orderAt_94 (q := 97) rfl (by decide) (fun c4 => ?_) (fun c4 => ?_)
            · refine q_iconst hJ (v := 0) dX11_orderAt_101 (q := 102) rfl (by decide) ?_
              refine q_iadd hJ dX11_orderAt_102 (q := 103) rfl ?_
              refine q_istore hJ dX11_orderAt_103 (q := 105) rfl (by decide) ?_
              refine q_iinc hJ dX11_orderAt_105 (q := 108) rfl (by decide) rfl (nI_1 j) ?_
              refine q_goto hJ (tgt := 23) dX11_orderAt_108 (by decide) ?_
              first
                | (have hP : (U j 0 = e ∧ U j 1 = mo) ∧ lexR (rkF U) j r := by
                     have hc : U j 0 = e ∧ U j 1 = mo := Decidable.byContradiction fun z => c1 (if_neg z)
                     first | exact ⟨hc, Or.inl (hs.1.mp c2)⟩ | exact ⟨hc, Or.inr ⟨hs.2.mp c3, Nat.lt_of_not_le fun z => c4 ((nI_leI (by omega) (by omega)).mpr z)⟩⟩
                   rw [show nI (cnP (fun t => (U t 0 = e ∧ U t 1 = mo) ∧ lexR (rkF U) t r) j) + 1 = nI (cnP (fun t => (U t 0 = e ∧ U t 1 = mo) ∧ lexR (rkF U) t r) (j + 1)) from by
                     show _ = nI (cnP (fun t => (U t 0 = e ∧ U t 1 = mo) ∧ lexR (rkF U) t r) j + (if _ then 1 else 0))
                     rw [if_pos hP]; exact nI_1 _]
                   exact ih (j + 1) _ (by omega))
                | (have hP : ¬ ((U j 0 = e ∧ U j 1 = mo) ∧ lexR (rkF U) j r) := by
                     rintro ⟨z1, z2⟩
                     first
                       | exact absurd (c1.symm.trans (if_pos z1)) (by decide)
                       | (rcases z2 with z2 | z2
                          · exact c2 (hs.1.mpr z2)
                          · exact c3 (hs.2.mpr z2.1))
                       | (rcases z2 with z2 | z2
                          · exact c2 (hs.1.mpr z2)
                          · have := (nI_leI (by omega) (by omega)).mp c4; omega)
                   rw [show nI (cnP (fun t => (U t 0 = e ∧ U t 1 = mo) ∧ lexR (rkF U) t r) j) + 0 = nI (cnP (fun t => (U t 0 = e ∧ U t 1 = mo) ∧ lexR (rkF U) t r) (j + 1)) from by
                     show _ = nI (cnP (fun t => (U t 0 = e ∧ U t 1 = mo) ∧ lexR (rkF U) t r) j + (if _ then 1 else 0))
                     rw [if_neg hP]; exact Int32.add_zero _]
                   exact ih (j + 1) _ (by omega))
            · refine q_iconst hJ (v := 1) dX11_orderAt_97 (q := 98) rfl (by decide) ?_
              refine q_goto hJ (tgt := 102) dX11_orderAt_98 (by decide) ?_
              refine q_iadd hJ dX11_orderAt_102 (q := 103) rfl ?_
              refine q_istore hJ dX11_orderAt_103 (q := 105) rfl (by decide) ?_
              refine q_iinc hJ dX11_orderAt_105 (q := 108) rfl (by decide) rfl (nI_1 j) ?_
              refine q_goto hJ (tgt := 23) dX11_orderAt_108 (by decide) ?_
              first
                | (have hP : (U j 0 = e ∧ U j 1 = mo) ∧ lexR (rkF U) j r := by
                     have hc : U j 0 = e ∧ U j 1 = mo := Decidable.byContradiction fun z => c1 (if_neg z)
                     first | exact ⟨hc, Or.inl (hs.1.mp c2)⟩ | exact ⟨hc, Or.inr ⟨hs.2.mp c3, Nat.lt_of_not_le fun z => c4 ((nI_leI (by omega) (by omega)).mpr z)⟩⟩
                   rw [show nI (cnP (fun t => (U t 0 = e ∧ U t 1 = mo) ∧ lexR (rkF U) t r) j) + 1 = nI (cnP (fun t => (U t 0 = e ∧ U t 1 = mo) ∧ lexR (rkF U) t r) (j + 1)) from by
                     show _ = nI (cnP (fun t => (U t 0 = e ∧ U t 1 = mo) ∧ lexR (rkF U) t r) j + (if _ then 1 else 0))
                     rw [if_pos hP]; exact nI_1 _]
                   exact ih (j + 1) _ (by omega))
                | (have hP : ¬ ((U j 0 = e ∧ U j 1 = mo) ∧ lexR (rkF U) j r) := by
                     rintro ⟨z1, z2⟩
                     first
                       | exact absurd (c1.symm.trans (if_pos z1)) (by decide)
                       | (rcases z2 with z2 | z2
                          · exact c2 (hs.1.mpr z2)
                          · exact c3 (hs.2.mpr z2.1))
                       | (rcases z2 with z2 | z2
                          · exact c2 (hs.1.mpr z2)
                          · have := (nI_leI (by omega) (by omega)).mp c4; omega)
                   rw [show nI (cnP (fun t => (U t 0 = e ∧ U t 1 = mo) ∧ lexR (rkF U) t r) j) + 0 = nI (cnP (fun t => (U t 0 = e ∧ U t 1 = mo) ∧ lexR (rkF U) t r) (j + 1)) from by
                     show _ = nI (cnP (fun t => (U t 0 = e ∧ U t 1 = mo) ∧ lexR (rkF U) t r) j + (if _ then 1 else 0))
                     rw [if_neg hP]; exact Int32.add_zero _]
                   exact ih (j + 1) _ (by omega))
  have loop : ∀ (k r : Nat) (y6 y7 y8 : Option Value), k + r = m → fndF (fun t => (U t 0 = e ∧ U t 1 = mo) ∧ nI (cnP (fun u => (U u 0 = e ∧ U u 1 = mo) ∧ lexR (rkF U) u t) m) = w) 0 m = fndF (fun t => (U t 0 = e ∧ U t 1 = mo) ∧ nI (cnP (fun u => (U u 0 = e ∧ U u 1 = mo) ∧ lexR (rkF U) u t) m) = w) r k → J 0 0 3 [some (.ref 317), some (.int (nI p)), some (.int e), some (.int mo), some (.int w), some (.int (nI r)), y6, y7, y8] [] g0 I R := by
    intro k
    induction k with
    | zero =>
      intro r y6 y7 y8 hm hf
      refine q_iload hJ dX11_orderAt_3 (q := 5) rfl rfl ?_
      refine q_aload_n hJ dX11_orderAt_5 (q := 6) rfl rfl (by first | rfl | exact isR_rr _) ?_
      refine q_getR hJ dX11_orderAt_6 (q := 9) rfl fl_X11_7 rfl (by first | exact ka317 | exact ka318 | exact ka319 | exact ka320 | exact ka321 | exact ka322) (by assumption) rfl ?_
      refine q_iload_n hJ dX11_orderAt_9 (q := 10) rfl rfl ?_
      refine q_bipush hJ (v := 81) dX11_orderAt_10 (q := 12) rfl (by decide) ?_
      refine q_iadd hJ dX11_orderAt_12 (q := 13) rfl ?_
      refine q_iald hJ dX11_orderAt_13 (q := 14) rfl (by first | exact ka317 | exact ka318 | exact ka319 | exact ka320 | exact ka321 | exact ka322) (ixE (j := p + 81) (by ((try simp only [nIl_add, nI_mul, nIl_0, nIl_1, nIl_2, nIl_3, nIl_4, nIl_5, nIl_6, nIl_7, nIl_8, nIl_9, nIl_10, nIl_11, nIl_12, nIl_20, nIl_60, nIl_72, nIl_80, nIl_81, nIl_82, nIl_99, nIl_100, nIl_226, nIl_227, nIl_228, nIl_229, nIl_230, nIl_231, nIl_232, nIl_233, nIl_413, nIl_1239, nIl_10000]) <;> first | done | rfl | exact congrArg nI (by omega))) (by omega) (by decide)) hU.1 ?_
      refine q_icmp_ge hJ (tgt := 139) dX11_orderAt_14 (q := 17) rfl (by decide) (fun _ => ?_) (fun c5 => absurd ((nI_leI (a := m) (b := r) (by omega) (by omega)).mpr (by omega)) c5)
      refine q_sipush hJ (v := (-1006)) dX11_orderAt_139 (q := 142) rfl (by decide) ?_
      refine q_iret hM dX11_orderAt_142 rfl rfl ?_
      exact ⟨by rw [← order_eq _ _ _ _ hm12, hf]; rfl, rfl, rfl, rfl⟩
    | succ k ih =>
      intro r y6 y7 y8 hm hf
      refine q_iload hJ dX11_orderAt_3 (q := 5) rfl rfl ?_
      refine q_aload_n hJ dX11_orderAt_5 (q := 6) rfl rfl (by first | rfl | exact isR_rr _) ?_
      refine q_getR hJ dX11_orderAt_6 (q := 9) rfl fl_X11_7 rfl (by first | exact ka317 | exact ka318 | exact ka319 | exact ka320 | exact ka321 | exact ka322) (by assumption) rfl ?_
      refine q_iload_n hJ dX11_orderAt_9 (q := 10) rfl rfl ?_
      refine q_bipush hJ (v := 81) dX11_orderAt_10 (q := 12) rfl (by decide) ?_
      refine q_iadd hJ dX11_orderAt_12 (q := 13) rfl ?_
      refine q_iald hJ dX11_orderAt_13 (q := 14) rfl (by first | exact ka317 | exact ka318 | exact ka319 | exact ka320 | exact ka321 | exact ka322) (ixE (j := p + 81) (by ((try simp only [nIl_add, nI_mul, nIl_0, nIl_1, nIl_2, nIl_3, nIl_4, nIl_5, nIl_6, nIl_7, nIl_8, nIl_9, nIl_10, nIl_11, nIl_12, nIl_20, nIl_60, nIl_72, nIl_80, nIl_81, nIl_82, nIl_99, nIl_100, nIl_226, nIl_227, nIl_228, nIl_229, nIl_230, nIl_231, nIl_232, nIl_233, nIl_413, nIl_1239, nIl_10000]) <;> first | done | rfl | exact congrArg nI (by omega))) (by omega) (by decide)) hU.1 ?_
      refine q_icmp_ge hJ (tgt := 139) dX11_orderAt_14 (q := 17) rfl (by decide) (fun c5 => absurd ((nI_leI (a := m) (b := r) (by omega) (by omega)).mp c5) (by omega)) (fun _ => ?_)
      refine q_iconst hJ (v := 0) dX11_orderAt_17 (q := 18) rfl (by decide) ?_
      refine q_istore hJ dX11_orderAt_18 (q := 20) rfl (by decide) ?_
      refine q_iconst hJ (v := 0) dX11_orderAt_20 (q := 21) rfl (by decide) ?_
      refine q_istore hJ dX11_orderAt_21 (q := 23) rfl (by decide) ?_
      refine inner r (by omega) (fun a b => ?_) m 0 _ (Nat.add_zero m)
      refine q_aload_n hJ dX11_orderAt_111 (q := 112) rfl rfl (by first | rfl | exact isR_rr _) ?_
      refine q_iload_n hJ dX11_orderAt_112 (q := 113) rfl rfl ?_
      refine q_iload hJ dX11_orderAt_113 (q := 115) rfl rfl ?_
      refine q_iload_n hJ dX11_orderAt_115 (q := 116) rfl rfl ?_
      refine q_iload_n hJ dX11_orderAt_116 (q := 117) rfl rfl ?_
      refine q_callV hJ dX11_orderAt_117 (q := 120) rfl (M_isOf p r hp (by omega) e mo I R hFR) imX11_isOf ln_X11_44 (by first | exact ka317 | exact ka318 | exact ka319 | exact ka320 | exact ka321 | exact ka322) (by decide) rfl rfl rfl rfl (Nat.le_of_ble_eq_true rfl) (by decide) (by decide) rfl rfl (fun rv gv Iv Rv hv => ?_)
      obtain ⟨rfl, rfl, rfl, rfl⟩ := hv
      rw [hU.2.2 r (by omega) 0 (by decide), hU.2.2 r (by omega) 1 (by decide)]
      refine q_if_eq hJ (tgt := 133) dX11_orderAt_120 (q := 123) rfl (by decide) (fun c7 => ?_) (fun c7 => ?_)
      · refine q_iinc hJ dX11_orderAt_133 (q := 136) rfl (by decide) rfl (nI_1 r) ?_
        refine q_goto hJ (tgt := 3) dX11_orderAt_136 (by decide) ?_
        refine ih (r + 1) _ _ _ (by omega) ?_
        rw [hf, fndF, if_neg]
        rintro ⟨z1, z2⟩
        first | exact absurd (c7.symm.trans (if_pos z1)) (by decide) | exact c8 z2
      · refine q_iload hJ dX11_orderAt_123 (q := 125) rfl rfl ?_
        refine q_iload hJ dX11_orderAt_125 (q := 127) rfl rfl ?_
        refine q_icmp_ne hJ (tgt := 133) dX11_orderAt_127 (q := 130) rfl (by decide) (fun c8 => ?_) (fun c8 => ?_)
        · refine q_iinc hJ dX11_orderAt_133 (q := 136) rfl (by decide) rfl (nI_1 r) ?_
          refine q_goto hJ (tgt := 3) dX11_orderAt_136 (by decide) ?_
          refine ih (r + 1) _ _ _ (by omega) ?_
          rw [hf, fndF, if_neg]
          rintro ⟨z1, z2⟩
          first | exact absurd (c7.symm.trans (if_pos z1)) (by decide) | exact c8 z2
        · refine q_iload hJ dX11_orderAt_130 (q := 132) rfl rfl ?_
          refine q_iret hM dX11_orderAt_132 rfl rfl ?_
          have hc : U r 0 = e ∧ U r 1 = mo := Decidable.byContradiction fun z => c7 (if_neg z)
          exact ⟨by rw [← order_eq _ _ _ _ hm12, hf, fndF, if_pos ⟨hc, c8⟩]; rfl, rfl, rfl, rfl⟩
  refine q_iconst hJ (v := 0) dX11_orderAt_0 (q := 1) rfl (by decide) ?_
  refine q_istore hJ dX11_orderAt_1 (q := 3) rfl (by decide) ?_
  exact loop m 0 _ _ _ (Nat.add_zero m) rfl

