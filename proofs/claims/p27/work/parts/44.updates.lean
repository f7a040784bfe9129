/-! THE LAW'S METHODS: updates -/
theorem ifU_n {ft w : Int32} {X : XS} (h : ft = -1001) : ifU ft w X = ft := by
  rw [ifU, if_neg (by rw [h]; decide), if_neg (by rw [h]; decide)]
theorem ifU_e {ft : Int32} {X : XS} (h : ft = -1006) : ifU ft 0 X = -1006 := by
  rw [ifU, if_neg (by rw [h]; decide), if_pos h, if_neg (by decide)]
theorem dpV_n {A : AS} {k f v : Int32} (h : ¬ updF A k f v = 0) : dpV A k f v = updF A k f v := if_neg h
theorem dpV_0 {A : AS} {k f v : Int32} (h : updF A k f v = 0) : dpV A k f v = dpF A k f v 8 1 := if_pos h
set_option maxRecDepth 100000 in
set_option maxHeartbeats 1000000 in
theorem S_updates (A : AS) (v k : Int32) (I : MI) (R : MR) (hO : Ob I R A) (hA : Good A) : Sp 40 0 0 mL_updates [.ref 0, .ref 317, .int v, .int k] g0 I R (DoP) := by
  refine Sp.on (by decide +kernel) rfl rfl (fun J hM => ?_)
  have hJ := hM.ok
  obtain ⟨G, h1, h8, hG⟩ := hA.1.2.2
  rcases hf : fK A k with _ | i
  · refine q_iload_n hJ dL_updates_0 (q := 1) rfl rfl ?_
    refine q_iconst hJ (v := 5) dL_updates_1 (q := 2) rfl (by decide) ?_
    refine q_ishr hJ dL_updates_2 (q := 3) rfl ?_
    refine q_iconst hJ (v := 3) dL_updates_3 (q := 4) rfl (by decide) ?_
    refine q_callS hJ dL_updates_4 (q := 7) rfl (S_low _ 3 (by decide) I R) imL_low ln_L_8 rfl rfl rfl (Nat.le_of_ble_eq_true rfl) (by decide) (by decide) rfl rfl (fun rv gv Iv Rv hv => ?_)
    obtain ⟨j, hj, rfl, rfl, rfl, rfl⟩ := hv
    refine q_istore hJ dL_updates_7 (q := 9) rfl (by decide) ?_
    refine q_iload_n hJ dL_updates_9 (q := 10) rfl rfl ?_
    refine q_bipush hJ (v := 7) dL_updates_10 (q := 12) rfl (by decide) ?_
    refine q_ishr hJ dL_updates_12 (q := 13) rfl ?_
    refine q_callS hJ dL_updates_13 (q := 16) rfl (S_value _ I R) imL_value ln_L_44 rfl rfl rfl (Nat.le_of_ble_eq_true rfl) (by decide) (by decide) rfl rfl (fun rv gv Iv Rv hv => ?_)
    obtain ⟨x, hx, rfl, rfl, rfl, rfl⟩ := hv
    refine q_istore hJ dL_updates_16 (q := 18) rfl (by decide) ?_
    refine q_aload_n hJ dL_updates_18 (q := 19) rfl rfl rfl ?_
    refine q_iload_n hJ dL_updates_19 (q := 20) rfl rfl ?_
    refine q_iload hJ dL_updates_20 (q := 22) rfl rfl ?_
    refine q_callV hJ dL_updates_22 (q := 25) rfl ((O_field k (nI j) hO).val (fld_no hf (nI j))) imX10_field ln_L_23 ka_x (by decide) rfl rfl rfl rfl (Nat.le_of_ble_eq_true rfl) (by decide) (by decide) rfl rfl (fun rv gv Iv Rv hv => ?_)
    obtain ⟨rfl, rfl, rfl, rfl⟩ := hv
    refine q_istore hJ dL_updates_25 (q := 27) rfl (by decide) ?_
    refine q_iload hJ dL_updates_27 (q := 29) rfl rfl ?_
    refine q_sipush hJ (v := (-1001)) dL_updates_29 (q := 32) rfl (by decide) ?_
    refine q_icmp_ne hJ (tgt := 40) dL_updates_32 (q := 35) rfl (by decide) (fun c1 => absurd rfl c1) (fun _ => ?_)
    refine q_iload hJ dL_updates_35 (q := 37) rfl rfl ?_
    refine q_goto hJ (tgt := 54) dL_updates_37 (by decide) ?_
    refine q_istore hJ dL_updates_54 (q := 56) rfl (by decide) ?_
    refine q_iload hJ dL_updates_56 (q := 58) rfl rfl ?_
    refine q_if_ge hJ (tgt := 110) dL_updates_58 (q := 61) rfl (by decide) (fun c4 => absurd c4 (by decide)) (fun _ => ?_)
    have h0 : updF A k (nI j) x = -1001 := by rw [updF, hf]
    have h0n : ¬ updF A k (nI j) x = 0 := by rw [h0]; decide
    refine q_aload_n hJ dL_updates_61 (q := 62) rfl rfl rfl ?_
    refine q_iload_n hJ dL_updates_62 (q := 63) rfl rfl ?_
    refine q_iload hJ dL_updates_63 (q := 65) rfl rfl ?_
    refine q_iload hJ dL_updates_65 (q := 67) rfl rfl ?_
    refine q_callV hJ dL_updates_67 (q := 70) rfl ((O_update k (nI j) x hO).valO ((stR_n h0n).trans h0) (if_neg h0n)) imX10_update ln_L_63 ka_x (by decide) rfl rfl rfl rfl (Nat.le_of_ble_eq_true rfl) (by decide) (by decide) rfl rfl (fun rv gv Iv Rv hv => ?_)
    obtain ⟨rfl, rfl, hO1, hT1⟩ := hv
    refine q_iload hJ dL_updates_70 (q := 72) rfl rfl ?_
    refine q_icmp_ne hJ (tgt := 108) dL_updates_72 (q := 75) rfl (by decide) (fun c5 => absurd rfl c5) (fun _ => ?_)
    refine q_aload_n hJ dL_updates_75 (q := 76) rfl rfl rfl ?_
    refine q_iload_n hJ dL_updates_76 (q := 77) rfl rfl ?_
    refine q_iload hJ dL_updates_77 (q := 79) rfl rfl ?_
    refine q_iload hJ dL_updates_79 (q := 81) rfl rfl ?_
    refine q_iconst hJ (v := 0) dL_updates_81 (q := 82) rfl (by decide) ?_
    refine q_callV hJ dL_updates_82 (q := 85) rfl ((O_ifUpd k (nI j) x 0 hO1).valO ((ifU_n h0).trans h0) rfl) imX10_ifUpdated ln_L_66 ka_x (by decide) rfl rfl rfl rfl (Nat.le_of_ble_eq_true rfl) (by decide) (by decide) rfl rfl (fun rv gv Iv Rv hv => ?_)
    obtain ⟨rfl, rfl, hO2, hT2⟩ := hv
    refine q_iload hJ dL_updates_85 (q := 87) rfl rfl ?_
    refine q_icmp_ne hJ (tgt := 108) dL_updates_87 (q := 90) rfl (by decide) (fun c6 => absurd rfl c6) (fun _ => ?_)
    refine q_aload_n hJ dL_updates_90 (q := 91) rfl rfl rfl ?_
    refine q_iload_n hJ dL_updates_91 (q := 92) rfl rfl ?_
    refine q_iload hJ dL_updates_92 (q := 94) rfl rfl ?_
    refine q_iload hJ dL_updates_94 (q := 96) rfl rfl ?_
    refine q_callV hJ dL_updates_96 (q := 99) rfl ((O_depthFor k (nI j) x hO2).valO ((dpV_n h0n).trans h0) rfl) imX10_depthFor ln_L_69 ka_x (by decide) rfl rfl rfl rfl (Nat.le_of_ble_eq_true rfl) (by decide) (by decide) rfl rfl (fun rv gv Iv Rv hv => ?_)
    obtain ⟨rfl, rfl, hO3, hT3⟩ := hv
    refine q_iload hJ dL_updates_99 (q := 101) rfl rfl ?_
    refine q_icmp_ne hJ (tgt := 108) dL_updates_101 (q := 104) rfl (by decide) (fun c7 => absurd rfl c7) (fun _ => ?_)
    refine q_iconst hJ (v := 1) dL_updates_104 (q := 105) rfl (by decide) ?_
    refine q_goto hJ (tgt := 109) dL_updates_105 (by decide) ?_
    refine q_iret hM dL_updates_109 rfl (by decide) ?_
    exact ⟨rfl, rfl, _, hO3, hA⟩
  · have hne : ∀ j, j < 3 → ¬ fieldF A k (nI j) = -1001 := fun j hj => by
      rw [fld_at hf hj]
      exact (row_VI (hA.2.1.row (fnd_row hf).1) hj).ne
    refine q_iload_n hJ dL_updates_0 (q := 1) rfl rfl ?_
    refine q_iconst hJ (v := 5) dL_updates_1 (q := 2) rfl (by decide) ?_
    refine q_ishr hJ dL_updates_2 (q := 3) rfl ?_
    refine q_iconst hJ (v := 3) dL_updates_3 (q := 4) rfl (by decide) ?_
    refine q_callS hJ dL_updates_4 (q := 7) rfl (S_low _ 3 (by decide) I R) imL_low ln_L_8 rfl rfl rfl (Nat.le_of_ble_eq_true rfl) (by decide) (by decide) rfl rfl (fun rv gv Iv Rv hv => ?_)
    obtain ⟨j, hj, rfl, rfl, rfl, rfl⟩ := hv
    refine q_istore hJ dL_updates_7 (q := 9) rfl (by decide) ?_
    refine q_iload_n hJ dL_updates_9 (q := 10) rfl rfl ?_
    refine q_bipush hJ (v := 7) dL_updates_10 (q := 12) rfl (by decide) ?_
    refine q_ishr hJ dL_updates_12 (q := 13) rfl ?_
    refine q_callS hJ dL_updates_13 (q := 16) rfl (S_value _ I R) imL_value ln_L_44 rfl rfl rfl (Nat.le_of_ble_eq_true rfl) (by decide) (by decide) rfl rfl (fun rv gv Iv Rv hv => ?_)
    obtain ⟨x, hx, rfl, rfl, rfl, rfl⟩ := hv
    refine q_istore hJ dL_updates_16 (q := 18) rfl (by decide) ?_
    refine q_aload_n hJ dL_updates_18 (q := 19) rfl rfl rfl ?_
    refine q_iload_n hJ dL_updates_19 (q := 20) rfl rfl ?_
    refine q_iload hJ dL_updates_20 (q := 22) rfl rfl ?_
    refine q_callV hJ dL_updates_22 (q := 25) rfl (O_field k (nI j) hO) imX10_field ln_L_23 ka_x (by decide) rfl rfl rfl rfl (Nat.le_of_ble_eq_true rfl) (by decide) (by decide) rfl rfl (fun rv gv Iv Rv hv => ?_)
    obtain ⟨rfl, rfl, rfl, rfl⟩ := hv
    refine q_istore hJ dL_updates_25 (q := 27) rfl (by decide) ?_
    refine q_iload hJ dL_updates_27 (q := 29) rfl rfl ?_
    refine q_sipush hJ (v := (-1001)) dL_updates_29 (q := 32) rfl (by decide) ?_
    refine q_icmp_ne hJ (tgt := 40) dL_updates_32 (q := 35) rfl (by decide) (fun _ => ?_) (fun c1 => absurd c1 (hne j hj))
    refine q_iload hJ dL_updates_40 (q := 42) rfl rfl ?_
    refine q_iload hJ dL_updates_42 (q := 44) rfl rfl ?_
    refine q_icmp_ne hJ (tgt := 53) dL_updates_44 (q := 47) rfl (by decide) (fun c3 => ?_) (fun c3 => ?_)
    · refine q_iconst hJ (v := 0) dL_updates_53 (q := 54) rfl (by decide) ?_
      refine q_istore hJ dL_updates_54 (q := 56) rfl (by decide) ?_
      refine q_iload hJ dL_updates_56 (q := 58) rfl rfl ?_
      refine q_if_ge hJ (tgt := 110) dL_updates_58 (q := 61) rfl (by decide) (fun _ => ?_) (fun c4 => absurd (by decide : (0 : Int32) ≤ 0) c4)
      refine q_iconst hJ (v := 0) dL_updates_110 (q := 111) rfl (by decide) ?_
      refine q_istore hJ dL_updates_111 (q := 113) rfl (by decide) ?_
      have h0 : updF A k (nI j) x = 0 := by rw [upd_F hf hj hx, if_neg (fun z => c3 ((fld_at hf hj).trans z))]
      have hrun := up_run (f := nI j) hA hG h1 h8 hf hx
      have hOb : xO (XR 1 (updI A k (nI j) x) A) ≤ 100 := hrun.choose_spec.2.2.2.2.1
      obtain ⟨D9, _, hD9, _⟩ := hrun.choose_spec.2.2.2.2.2.2.2.1
      have loop : ∀ (m q : Nat) (I' : MI) (R' : MR), m + q = 5 → Ob I' R' A → (∀ kk, kk < q → I' 317 kk = telX (XR 1 (updI A k (nI j) x) A) (nI kk)) → J 0 0 113 [some (.ref 0), some (.ref 317), some (.int (v)), some (.int (k)), some (.int (nI j)), some (.int (x)), some (.int (fieldF A k (nI j))), some (.int (0)), some (.int (nI q)), none, none] [] g0 I' R' := by
        intro m
        induction m with
        | zero =>
          intro q I' R' hq hO' h3
          by_cases hz : xR (XR 1 (updI A k (nI j) x) A) = 0
          · obtain ⟨i0, hi1, hi2, hi3⟩ := dpF_ok hG hz hOb 8 1 h1 (by omega)
            refine q_iload hJ dL_updates_113 (q := 115) rfl rfl ?_
            refine q_iconst hJ (v := 5) dL_updates_115 (q := 116) rfl (by decide) ?_
            refine q_icmp_ge hJ (tgt := 140) dL_updates_116 (q := 119) rfl (by decide) (fun _ => ?_) (fun c5 => absurd ((nI_leI (a := 5) (b := q) (by decide) (by omega)).mpr (by omega)) c5)
            refine q_aload_n hJ dL_updates_140 (q := 141) rfl rfl rfl ?_
            refine q_aload_n hJ dL_updates_141 (q := 142) rfl rfl rfl ?_
            refine q_callS hJ dL_updates_142 (q := 145) rfl (S_totals A I' R' hO') imL_totals ln_L_55 rfl rfl rfl (Nat.le_of_ble_eq_true rfl) (by decide) (by decide) rfl rfl (fun rv gv Iv Rv hv => ?_)
            obtain ⟨rfl, rfl, rfl, hu1, hu2, hu3⟩ := hv
            have hO2 := hO'.lo (fun a ha => hu1 a (by omega))
            have hT5 := T5.of (fun k hk => h3 k (by omega)) hu2
            have hT4 := T4.of hu3
            refine q_aload_n hJ dL_updates_145 (q := 146) rfl rfl rfl ?_
            refine q_iload_n hJ dL_updates_146 (q := 147) rfl rfl ?_
            refine q_iload hJ dL_updates_147 (q := 149) rfl rfl ?_
            refine q_iload hJ dL_updates_149 (q := 151) rfl rfl ?_
            refine q_callV hJ dL_updates_151 (q := 154) rfl ((O_depthFor k (nI j) x hO2).valO ((dpV_0 h0).trans hi3) rfl) imX10_depthFor ln_L_69 ka_x (by decide) rfl rfl rfl rfl (Nat.le_of_ble_eq_true rfl) (by decide) (by decide) rfl rfl (fun rv gv Iv Rv hv => ?_)
            obtain ⟨rfl, rfl, hO3, hT3⟩ := hv
            have hT5' := hT5.moved hT3
            have hT4' := hT4.moved hT3
            obtain ⟨ht0, ht1, ht2, ht3, ht4⟩ := id hT5'
            rw [hz] at ht0
            rw [hD9] at ht4
            refine q_istore hJ dL_updates_154 (q := 156) rfl (by decide) ?_
            refine q_aload_n hJ dL_updates_156 (q := 157) rfl rfl rfl ?_
            refine q_iconst hJ (v := 0) dL_updates_157 (q := 158) rfl (by decide) ?_
            refine q_iald hJ dL_updates_158 (q := 159) rfl ka_t (ix_t (j := 0) (by decide)) ht0 ?_
            refine q_if_ne hJ (tgt := 193) dL_updates_159 (q := 162) rfl (by decide) (fun e1 => absurd rfl e1) (fun _ => ?_)
            refine q_iload hJ dL_updates_162 (q := 164) rfl rfl ?_
            refine q_aload_n hJ dL_updates_164 (q := 165) rfl rfl rfl ?_
            refine q_iconst hJ (v := 4) dL_updates_165 (q := 166) rfl (by decide) ?_
            refine q_iald hJ dL_updates_166 (q := 167) rfl ka_t (ix_t (j := 4) (by decide)) ht4 ?_
            refine q_icmp_eq hJ (tgt := 185) dL_updates_167 (q := 170) rfl (by decide) (fun e2 => ?_) (fun e2 => ?_)
            · refine q_iconst hJ (v := 1) dL_updates_185 (q := 186) rfl (by decide) ?_
              refine q_goto hJ (tgt := 223) dL_updates_186 (by decide) ?_
              refine q_istore hJ dL_updates_223 (q := 225) rfl (by decide) ?_
              refine q_aload_n hJ dL_updates_225 (q := 226) rfl rfl rfl ?_
              refine q_iload_n hJ dL_updates_226 (q := 227) rfl rfl ?_
              refine q_iload hJ dL_updates_227 (q := 229) rfl rfl ?_
              refine q_iload hJ dL_updates_229 (q := 231) rfl rfl ?_
              refine q_callV hJ dL_updates_231 (q := 234) rfl ((O_update k (nI j) x hO3).valO (stR_0 h0) (if_pos h0)) imX10_update ln_L_63 ka_x (by decide) rfl rfl rfl rfl (Nat.le_of_ble_eq_true rfl) (by decide) (by decide) rfl rfl (fun rv gv Iv Rv hv => ?_)
              obtain ⟨rfl, rfl, hO4, hT4_⟩ := hv
              refine q_istore hJ dL_updates_234 (q := 236) rfl (by decide) ?_
              refine q_iload hJ dL_updates_236 (q := 238) rfl rfl ?_
              refine q_if_eq hJ (tgt := 272) dL_updates_238 (q := 241) rfl (by decide) (fun f1 => absurd f1 (by decide)) (fun _ => ?_)
              refine q_aload_n hJ dL_updates_241 (q := 242) rfl rfl rfl ?_
              refine q_aload_n hJ dL_updates_242 (q := 243) rfl rfl rfl ?_
              refine q_iload hJ dL_updates_243 (q := 245) rfl rfl ?_
              refine q_callS hJ dL_updates_245 (q := 248) rfl (S_came A (XR 1 (updI A k (nI j) x) A) G _ _ hO4 hA hrun hG h8 (hT5'.moved hT4_) (hT4'.moved hT4_)) imL_came ln_L_59 rfl rfl rfl (Nat.le_of_ble_eq_true rfl) (by decide) (by decide) rfl rfl (fun rv gv Iv Rv hv => ?_)
              obtain ⟨rfl, rfl, rfl, rfl⟩ := hv
              refine q_if_eq hJ (tgt := 272) dL_updates_248 (q := 251) rfl (by decide) (fun f2 => absurd f2 (by decide)) (fun _ => ?_)
              refine q_iload hJ dL_updates_251 (q := 253) rfl rfl ?_
              rw [runR, if_pos hz]
              refine q_if_ge hJ (tgt := 268) dL_updates_253 (q := 256) rfl (by decide) (fun _ => ?_) (fun f3 => absurd (nI_pos' (by omega)) f3)
              refine q_iconst hJ (v := 1) dL_updates_268 (q := 269) rfl (by decide) ?_
              refine q_goto hJ (tgt := 273) dL_updates_269 (by decide) ?_
              refine q_iret hM dL_updates_273 rfl (by decide) ?_
              exact ⟨rfl, rfl, _, hO4, (hA.res hrun)⟩
            · refine q_iload hJ dL_updates_170 (q := 172) rfl rfl ?_
              refine q_if_le hJ (tgt := 189) dL_updates_172 (q := 175) rfl (by decide) (fun e3 => absurd e3 (nI_nle (by omega) (by omega))) (fun _ => ?_)
              refine q_iload hJ dL_updates_175 (q := 177) rfl rfl ?_
              refine q_aload_n hJ dL_updates_177 (q := 178) rfl rfl rfl ?_
              refine q_iconst hJ (v := 3) dL_updates_178 (q := 179) rfl (by decide) ?_
              refine q_callV hJ dL_updates_179 (q := 182) rfl ((O_total 3 (by decide) (by decide) hO3).val (w := nI G) hG) imX10_total ln_L_14 ka_x (by decide) rfl rfl rfl rfl (Nat.le_of_ble_eq_true rfl) (by decide) (by decide) rfl rfl (fun rv gv Iv Rv hv => ?_)
              obtain ⟨rfl, rfl, rfl, rfl⟩ := hv
              refine q_icmp_gt hJ (tgt := 189) dL_updates_182 (q := 185) rfl (by decide) (fun e4 => absurd e4 (nI_nlt (a := G) (b := i0) (by omega) (by omega))) (fun _ => ?_)
              refine q_iconst hJ (v := 1) dL_updates_185 (q := 186) rfl (by decide) ?_
              refine q_goto hJ (tgt := 223) dL_updates_186 (by decide) ?_
              refine q_istore hJ dL_updates_223 (q := 225) rfl (by decide) ?_
              refine q_aload_n hJ dL_updates_225 (q := 226) rfl rfl rfl ?_
              refine q_iload_n hJ dL_updates_226 (q := 227) rfl rfl ?_
              refine q_iload hJ dL_updates_227 (q := 229) rfl rfl ?_
              refine q_iload hJ dL_updates_229 (q := 231) rfl rfl ?_
              refine q_callV hJ dL_updates_231 (q := 234) rfl ((O_update k (nI j) x hO3).valO (stR_0 h0) (if_pos h0)) imX10_update ln_L_63 ka_x (by decide) rfl rfl rfl rfl (Nat.le_of_ble_eq_true rfl) (by decide) (by decide) rfl rfl (fun rv gv Iv Rv hv => ?_)
              obtain ⟨rfl, rfl, hO4, hT4_⟩ := hv
              refine q_istore hJ dL_updates_234 (q := 236) rfl (by decide) ?_
              refine q_iload hJ dL_updates_236 (q := 238) rfl rfl ?_
              refine q_if_eq hJ (tgt := 272) dL_updates_238 (q := 241) rfl (by decide) (fun f1 => absurd f1 (by decide)) (fun _ => ?_)
              refine q_aload_n hJ dL_updates_241 (q := 242) rfl rfl rfl ?_
              refine q_aload_n hJ dL_updates_242 (q := 243) rfl rfl rfl ?_
              refine q_iload hJ dL_updates_243 (q := 245) rfl rfl ?_
              refine q_callS hJ dL_updates_245 (q := 248) rfl (S_came A (XR 1 (updI A k (nI j) x) A) G _ _ hO4 hA hrun hG h8 (hT5'.moved hT4_) (hT4'.moved hT4_)) imL_came ln_L_59 rfl rfl rfl (Nat.le_of_ble_eq_true rfl) (by decide) (by decide) rfl rfl (fun rv gv Iv Rv hv => ?_)
              obtain ⟨rfl, rfl, rfl, rfl⟩ := hv
              refine q_if_eq hJ (tgt := 272) dL_updates_248 (q := 251) rfl (by decide) (fun f2 => absurd f2 (by decide)) (fun _ => ?_)
              refine q_iload hJ dL_updates_251 (q := 253) rfl rfl ?_
              rw [runR, if_pos hz]
              refine q_if_ge hJ (tgt := 268) dL_updates_253 (q := 256) rfl (by decide) (fun _ => ?_) (fun f3 => absurd (nI_pos' (by omega)) f3)
              refine q_iconst hJ (v := 1) dL_updates_268 (q := 269) rfl (by decide) ?_
              refine q_goto hJ (tgt := 273) dL_updates_269 (by decide) ?_
              refine q_iret hM dL_updates_273 rfl (by decide) ?_
              exact ⟨rfl, rfl, _, hO4, (hA.res hrun)⟩
          · rcases dpF_no hG h8 hz 8 1 rfl with hd9 | ⟨i0, hi1, hi2, hi3⟩
            · refine q_iload hJ dL_updates_113 (q := 115) rfl rfl ?_
              refine q_iconst hJ (v := 5) dL_updates_115 (q := 116) rfl (by decide) ?_
              refine q_icmp_ge hJ (tgt := 140) dL_updates_116 (q := 119) rfl (by decide) (fun _ => ?_) (fun c5 => absurd ((nI_leI (a := 5) (b := q) (by decide) (by omega)).mpr (by omega)) c5)
              refine q_aload_n hJ dL_updates_140 (q := 141) rfl rfl rfl ?_
              refine q_aload_n hJ dL_updates_141 (q := 142) rfl rfl rfl ?_
              refine q_callS hJ dL_updates_142 (q := 145) rfl (S_totals A I' R' hO') imL_totals ln_L_55 rfl rfl rfl (Nat.le_of_ble_eq_true rfl) (by decide) (by decide) rfl rfl (fun rv gv Iv Rv hv => ?_)
              obtain ⟨rfl, rfl, rfl, hu1, hu2, hu3⟩ := hv
              have hO2 := hO'.lo (fun a ha => hu1 a (by omega))
              have hT5 := T5.of (fun k hk => h3 k (by omega)) hu2
              have hT4 := T4.of hu3
              refine q_aload_n hJ dL_updates_145 (q := 146) rfl rfl rfl ?_
              refine q_iload_n hJ dL_updates_146 (q := 147) rfl rfl ?_
              refine q_iload hJ dL_updates_147 (q := 149) rfl rfl ?_
              refine q_iload hJ dL_updates_149 (q := 151) rfl rfl ?_
              refine q_callV hJ dL_updates_151 (q := 154) rfl ((O_depthFor k (nI j) x hO2).valO ((dpV_0 h0).trans hd9) rfl) imX10_depthFor ln_L_69 ka_x (by decide) rfl rfl rfl rfl (Nat.le_of_ble_eq_true rfl) (by decide) (by decide) rfl rfl (fun rv gv Iv Rv hv => ?_)
              obtain ⟨rfl, rfl, hO3, hT3⟩ := hv
              have hT5' := hT5.moved hT3
              have hT4' := hT4.moved hT3
              obtain ⟨ht0, ht1, ht2, ht3, ht4⟩ := id hT5'
              refine q_istore hJ dL_updates_154 (q := 156) rfl (by decide) ?_
              refine q_aload_n hJ dL_updates_156 (q := 157) rfl rfl rfl ?_
              refine q_iconst hJ (v := 0) dL_updates_157 (q := 158) rfl (by decide) ?_
              refine q_iald hJ dL_updates_158 (q := 159) rfl ka_t (ix_t (j := 0) (by decide)) ht0 ?_
              refine q_if_ne hJ (tgt := 193) dL_updates_159 (q := 162) rfl (by decide) (fun _ => ?_) (fun e1 => absurd e1 hz)
              refine q_aload_n hJ dL_updates_193 (q := 194) rfl rfl rfl ?_
              refine q_iconst hJ (v := 0) dL_updates_194 (q := 195) rfl (by decide) ?_
              refine q_iald hJ dL_updates_195 (q := 196) rfl ka_t (ix_t (j := 0) (by decide)) ht0 ?_
              refine q_iconst hJ (v := 2) dL_updates_196 (q := 197) rfl (by decide) ?_
              refine q_icmp_ne hJ (tgt := 218) dL_updates_197 (q := 200) rfl (by decide) (fun e2 => ?_) (fun e2 => ?_)
              · refine q_iconst hJ (v := 1) dL_updates_218 (q := 219) rfl (by decide) ?_
                refine q_goto hJ (tgt := 223) dL_updates_219 (by decide) ?_
                refine q_istore hJ dL_updates_223 (q := 225) rfl (by decide) ?_
                refine q_aload_n hJ dL_updates_225 (q := 226) rfl rfl rfl ?_
                refine q_iload_n hJ dL_updates_226 (q := 227) rfl rfl ?_
                refine q_iload hJ dL_updates_227 (q := 229) rfl rfl ?_
                refine q_iload hJ dL_updates_229 (q := 231) rfl rfl ?_
                refine q_callV hJ dL_updates_231 (q := 234) rfl ((O_update k (nI j) x hO3).valO (stR_0 h0) (if_pos h0)) imX10_update ln_L_63 ka_x (by decide) rfl rfl rfl rfl (Nat.le_of_ble_eq_true rfl) (by decide) (by decide) rfl rfl (fun rv gv Iv Rv hv => ?_)
                obtain ⟨rfl, rfl, hO4, hT4_⟩ := hv
                refine q_istore hJ dL_updates_234 (q := 236) rfl (by decide) ?_
                refine q_iload hJ dL_updates_236 (q := 238) rfl rfl ?_
                refine q_if_eq hJ (tgt := 272) dL_updates_238 (q := 241) rfl (by decide) (fun f1 => absurd f1 (by decide)) (fun _ => ?_)
                refine q_aload_n hJ dL_updates_241 (q := 242) rfl rfl rfl ?_
                refine q_aload_n hJ dL_updates_242 (q := 243) rfl rfl rfl ?_
                refine q_iload hJ dL_updates_243 (q := 245) rfl rfl ?_
                refine q_callS hJ dL_updates_245 (q := 248) rfl (S_came A (XR 1 (updI A k (nI j) x) A) G _ _ hO4 hA hrun hG h8 (hT5'.moved hT4_) (hT4'.moved hT4_)) imL_came ln_L_59 rfl rfl rfl (Nat.le_of_ble_eq_true rfl) (by decide) (by decide) rfl rfl (fun rv gv Iv Rv hv => ?_)
                obtain ⟨rfl, rfl, rfl, rfl⟩ := hv
                refine q_if_eq hJ (tgt := 272) dL_updates_248 (q := 251) rfl (by decide) (fun f2 => absurd f2 (by decide)) (fun _ => ?_)
                refine q_iload hJ dL_updates_251 (q := 253) rfl rfl ?_
                rw [runR, if_neg hz]
                refine q_if_ge hJ (tgt := 268) dL_updates_253 (q := 256) rfl (by decide) (fun f3 => absurd f3 (by decide)) (fun _ => ?_)
                rw [resA, if_neg hz] at hO4
                refine q_aload_n hJ dL_updates_256 (q := 257) rfl rfl rfl ?_
                refine q_iload_n hJ dL_updates_257 (q := 258) rfl rfl ?_
                refine q_iload hJ dL_updates_258 (q := 260) rfl rfl ?_
                refine q_callV hJ dL_updates_260 (q := 263) rfl (O_field k (nI j) hO4) imX10_field ln_L_23 ka_x (by decide) rfl rfl rfl rfl (Nat.le_of_ble_eq_true rfl) (by decide) (by decide) rfl rfl (fun rv gv Iv Rv hv => ?_)
                obtain ⟨rfl, rfl, rfl, rfl⟩ := hv
                refine q_iload hJ dL_updates_263 (q := 265) rfl rfl ?_
                refine q_icmp_ne hJ (tgt := 272) dL_updates_265 (q := 268) rfl (by decide) (fun f4 => absurd rfl f4) (fun _ => ?_)
                refine q_iconst hJ (v := 1) dL_updates_268 (q := 269) rfl (by decide) ?_
                refine q_goto hJ (tgt := 273) dL_updates_269 (by decide) ?_
                refine q_iret hM dL_updates_273 rfl (by decide) ?_
                exact ⟨rfl, rfl, _, hO4, hA⟩
              · refine q_iload hJ dL_updates_200 (q := 202) rfl rfl ?_
                refine q_sipush hJ (v := (-1006)) dL_updates_202 (q := 205) rfl (by decide) ?_
                refine q_icmp_eq hJ (tgt := 218) dL_updates_205 (q := 208) rfl (by decide) (fun _ => ?_) (fun e3 => absurd rfl e3)
                refine q_iconst hJ (v := 1) dL_updates_218 (q := 219) rfl (by decide) ?_
                refine q_goto hJ (tgt := 223) dL_updates_219 (by decide) ?_
                refine q_istore hJ dL_updates_223 (q := 225) rfl (by decide) ?_
                refine q_aload_n hJ dL_updates_225 (q := 226) rfl rfl rfl ?_
                refine q_iload_n hJ dL_updates_226 (q := 227) rfl rfl ?_
                refine q_iload hJ dL_updates_227 (q := 229) rfl rfl ?_
                refine q_iload hJ dL_updates_229 (q := 231) rfl rfl ?_
                refine q_callV hJ dL_updates_231 (q := 234) rfl ((O_update k (nI j) x hO3).valO (stR_0 h0) (if_pos h0)) imX10_update ln_L_63 ka_x (by decide) rfl rfl rfl rfl (Nat.le_of_ble_eq_true rfl) (by decide) (by decide) rfl rfl (fun rv gv Iv Rv hv => ?_)
                obtain ⟨rfl, rfl, hO4, hT4_⟩ := hv
                refine q_istore hJ dL_updates_234 (q := 236) rfl (by decide) ?_
                refine q_iload hJ dL_updates_236 (q := 238) rfl rfl ?_
                refine q_if_eq hJ (tgt := 272) dL_updates_238 (q := 241) rfl (by decide) (fun f1 => absurd f1 (by decide)) (fun _ => ?_)
                refine q_aload_n hJ dL_updates_241 (q := 242) rfl rfl rfl ?_
                refine q_aload_n hJ dL_updates_242 (q := 243) rfl rfl rfl ?_
                refine q_iload hJ dL_updates_243 (q := 245) rfl rfl ?_
                refine q_callS hJ dL_updates_245 (q := 248) rfl (S_came A (XR 1 (updI A k (nI j) x) A) G _ _ hO4 hA hrun hG h8 (hT5'.moved hT4_) (hT4'.moved hT4_)) imL_came ln_L_59 rfl rfl rfl (Nat.le_of_ble_eq_true rfl) (by decide) (by decide) rfl rfl (fun rv gv Iv Rv hv => ?_)
                obtain ⟨rfl, rfl, rfl, rfl⟩ := hv
                refine q_if_eq hJ (tgt := 272) dL_updates_248 (q := 251) rfl (by decide) (fun f2 => absurd f2 (by decide)) (fun _ => ?_)
                refine q_iload hJ dL_updates_251 (q := 253) rfl rfl ?_
                rw [runR, if_neg hz]
                refine q_if_ge hJ (tgt := 268) dL_updates_253 (q := 256) rfl (by decide) (fun f3 => absurd f3 (by decide)) (fun _ => ?_)
                rw [resA, if_neg hz] at hO4
                refine q_aload_n hJ dL_updates_256 (q := 257) rfl rfl rfl ?_
                refine q_iload_n hJ dL_updates_257 (q := 258) rfl rfl ?_
                refine q_iload hJ dL_updates_258 (q := 260) rfl rfl ?_
                refine q_callV hJ dL_updates_260 (q := 263) rfl (O_field k (nI j) hO4) imX10_field ln_L_23 ka_x (by decide) rfl rfl rfl rfl (Nat.le_of_ble_eq_true rfl) (by decide) (by decide) rfl rfl (fun rv gv Iv Rv hv => ?_)
                obtain ⟨rfl, rfl, rfl, rfl⟩ := hv
                refine q_iload hJ dL_updates_263 (q := 265) rfl rfl ?_
                refine q_icmp_ne hJ (tgt := 272) dL_updates_265 (q := 268) rfl (by decide) (fun f4 => absurd rfl f4) (fun _ => ?_)
                refine q_iconst hJ (v := 1) dL_updates_268 (q := 269) rfl (by decide) ?_
                refine q_goto hJ (tgt := 273) dL_updates_269 (by decide) ?_
                refine q_iret hM dL_updates_273 rfl (by decide) ?_
                exact ⟨rfl, rfl, _, hO4, hA⟩
            · refine q_iload hJ dL_updates_113 (q := 115) rfl rfl ?_
              refine q_iconst hJ (v := 5) dL_updates_115 (q := 116) rfl (by decide) ?_
              refine q_icmp_ge hJ (tgt := 140) dL_updates_116 (q := 119) rfl (by decide) (fun _ => ?_) (fun c5 => absurd ((nI_leI (a := 5) (b := q) (by decide) (by omega)).mpr (by omega)) c5)
              refine q_aload_n hJ dL_updates_140 (q := 141) rfl rfl rfl ?_
              refine q_aload_n hJ dL_updates_141 (q := 142) rfl rfl rfl ?_
              refine q_callS hJ dL_updates_142 (q := 145) rfl (S_totals A I' R' hO') imL_totals ln_L_55 rfl rfl rfl (Nat.le_of_ble_eq_true rfl) (by decide) (by decide) rfl rfl (fun rv gv Iv Rv hv => ?_)
              obtain ⟨rfl, rfl, rfl, hu1, hu2, hu3⟩ := hv
              have hO2 := hO'.lo (fun a ha => hu1 a (by omega))
              have hT5 := T5.of (fun k hk => h3 k (by omega)) hu2
              have hT4 := T4.of hu3
              refine q_aload_n hJ dL_updates_145 (q := 146) rfl rfl rfl ?_
              refine q_iload_n hJ dL_updates_146 (q := 147) rfl rfl ?_
              refine q_iload hJ dL_updates_147 (q := 149) rfl rfl ?_
              refine q_iload hJ dL_updates_149 (q := 151) rfl rfl ?_
              refine q_callV hJ dL_updates_151 (q := 154) rfl ((O_depthFor k (nI j) x hO2).valO ((dpV_0 h0).trans hi3) rfl) imX10_depthFor ln_L_69 ka_x (by decide) rfl rfl rfl rfl (Nat.le_of_ble_eq_true rfl) (by decide) (by decide) rfl rfl (fun rv gv Iv Rv hv => ?_)
              obtain ⟨rfl, rfl, hO3, hT3⟩ := hv
              have hT5' := hT5.moved hT3
              have hT4' := hT4.moved hT3
              obtain ⟨ht0, ht1, ht2, ht3, ht4⟩ := id hT5'
              refine q_istore hJ dL_updates_154 (q := 156) rfl (by decide) ?_
              refine q_aload_n hJ dL_updates_156 (q := 157) rfl rfl rfl ?_
              refine q_iconst hJ (v := 0) dL_updates_157 (q := 158) rfl (by decide) ?_
              refine q_iald hJ dL_updates_158 (q := 159) rfl ka_t (ix_t (j := 0) (by decide)) ht0 ?_
              refine q_if_ne hJ (tgt := 193) dL_updates_159 (q := 162) rfl (by decide) (fun _ => ?_) (fun e1 => absurd e1 hz)
              refine q_aload_n hJ dL_updates_193 (q := 194) rfl rfl rfl ?_
              refine q_iconst hJ (v := 0) dL_updates_194 (q := 195) rfl (by decide) ?_
              refine q_iald hJ dL_updates_195 (q := 196) rfl ka_t (ix_t (j := 0) (by decide)) ht0 ?_
              refine q_iconst hJ (v := 2) dL_updates_196 (q := 197) rfl (by decide) ?_
              refine q_icmp_ne hJ (tgt := 218) dL_updates_197 (q := 200) rfl (by decide) (fun e2 => ?_) (fun e2 => ?_)
              · refine q_iconst hJ (v := 1) dL_updates_218 (q := 219) rfl (by decide) ?_
                refine q_goto hJ (tgt := 223) dL_updates_219 (by decide) ?_
                refine q_istore hJ dL_updates_223 (q := 225) rfl (by decide) ?_
                refine q_aload_n hJ dL_updates_225 (q := 226) rfl rfl rfl ?_
                refine q_iload_n hJ dL_updates_226 (q := 227) rfl rfl ?_
                refine q_iload hJ dL_updates_227 (q := 229) rfl rfl ?_
                refine q_iload hJ dL_updates_229 (q := 231) rfl rfl ?_
                refine q_callV hJ dL_updates_231 (q := 234) rfl ((O_update k (nI j) x hO3).valO (stR_0 h0) (if_pos h0)) imX10_update ln_L_63 ka_x (by decide) rfl rfl rfl rfl (Nat.le_of_ble_eq_true rfl) (by decide) (by decide) rfl rfl (fun rv gv Iv Rv hv => ?_)
                obtain ⟨rfl, rfl, hO4, hT4_⟩ := hv
                refine q_istore hJ dL_updates_234 (q := 236) rfl (by decide) ?_
                refine q_iload hJ dL_updates_236 (q := 238) rfl rfl ?_
                refine q_if_eq hJ (tgt := 272) dL_updates_238 (q := 241) rfl (by decide) (fun f1 => absurd f1 (by decide)) (fun _ => ?_)
                refine q_aload_n hJ dL_updates_241 (q := 242) rfl rfl rfl ?_
                refine q_aload_n hJ dL_updates_242 (q := 243) rfl rfl rfl ?_
                refine q_iload hJ dL_updates_243 (q := 245) rfl rfl ?_
                refine q_callS hJ dL_updates_245 (q := 248) rfl (S_came A (XR 1 (updI A k (nI j) x) A) G _ _ hO4 hA hrun hG h8 (hT5'.moved hT4_) (hT4'.moved hT4_)) imL_came ln_L_59 rfl rfl rfl (Nat.le_of_ble_eq_true rfl) (by decide) (by decide) rfl rfl (fun rv gv Iv Rv hv => ?_)
                obtain ⟨rfl, rfl, rfl, rfl⟩ := hv
                refine q_if_eq hJ (tgt := 272) dL_updates_248 (q := 251) rfl (by decide) (fun f2 => absurd f2 (by decide)) (fun _ => ?_)
                refine q_iload hJ dL_updates_251 (q := 253) rfl rfl ?_
                rw [runR, if_neg hz]
                refine q_if_ge hJ (tgt := 268) dL_updates_253 (q := 256) rfl (by decide) (fun f3 => absurd f3 (by decide)) (fun _ => ?_)
                rw [resA, if_neg hz] at hO4
                refine q_aload_n hJ dL_updates_256 (q := 257) rfl rfl rfl ?_
                refine q_iload_n hJ dL_updates_257 (q := 258) rfl rfl ?_
                refine q_iload hJ dL_updates_258 (q := 260) rfl rfl ?_
                refine q_callV hJ dL_updates_260 (q := 263) rfl (O_field k (nI j) hO4) imX10_field ln_L_23 ka_x (by decide) rfl rfl rfl rfl (Nat.le_of_ble_eq_true rfl) (by decide) (by decide) rfl rfl (fun rv gv Iv Rv hv => ?_)
                obtain ⟨rfl, rfl, rfl, rfl⟩ := hv
                refine q_iload hJ dL_updates_263 (q := 265) rfl rfl ?_
                refine q_icmp_ne hJ (tgt := 272) dL_updates_265 (q := 268) rfl (by decide) (fun f4 => absurd rfl f4) (fun _ => ?_)
                refine q_iconst hJ (v := 1) dL_updates_268 (q := 269) rfl (by decide) ?_
                refine q_goto hJ (tgt := 273) dL_updates_269 (by decide) ?_
                refine q_iret hM dL_updates_273 rfl (by decide) ?_
                exact ⟨rfl, rfl, _, hO4, hA⟩
              · refine q_iload hJ dL_updates_200 (q := 202) rfl rfl ?_
                refine q_sipush hJ (v := (-1006)) dL_updates_202 (q := 205) rfl (by decide) ?_
                refine q_icmp_eq hJ (tgt := 218) dL_updates_205 (q := 208) rfl (by decide) (fun e3 => absurd e3 (nI_ge0 (by omega) (by decide))) (fun _ => ?_)
                refine q_iload hJ dL_updates_208 (q := 210) rfl rfl ?_
                refine q_aload_n hJ dL_updates_210 (q := 211) rfl rfl rfl ?_
                refine q_iconst hJ (v := 3) dL_updates_211 (q := 212) rfl (by decide) ?_
                refine q_callV hJ dL_updates_212 (q := 215) rfl ((O_total 3 (by decide) (by decide) hO3).val (w := nI G) hG) imX10_total ln_L_14 ka_x (by decide) rfl rfl rfl rfl (Nat.le_of_ble_eq_true rfl) (by decide) (by decide) rfl rfl (fun rv gv Iv Rv hv => ?_)
                obtain ⟨rfl, rfl, rfl, rfl⟩ := hv
                refine q_icmp_le hJ (tgt := 222) dL_updates_215 (q := 218) rfl (by decide) (fun e4 => absurd e4 (nle (by omega) (by omega))) (fun _ => ?_)
                refine q_iconst hJ (v := 1) dL_updates_218 (q := 219) rfl (by decide) ?_
                refine q_goto hJ (tgt := 223) dL_updates_219 (by decide) ?_
                refine q_istore hJ dL_updates_223 (q := 225) rfl (by decide) ?_
                refine q_aload_n hJ dL_updates_225 (q := 226) rfl rfl rfl ?_
                refine q_iload_n hJ dL_updates_226 (q := 227) rfl rfl ?_
                refine q_iload hJ dL_updates_227 (q := 229) rfl rfl ?_
                refine q_iload hJ dL_updates_229 (q := 231) rfl rfl ?_
                refine q_callV hJ dL_updates_231 (q := 234) rfl ((O_update k (nI j) x hO3).valO (stR_0 h0) (if_pos h0)) imX10_update ln_L_63 ka_x (by decide) rfl rfl rfl rfl (Nat.le_of_ble_eq_true rfl) (by decide) (by decide) rfl rfl (fun rv gv Iv Rv hv => ?_)
                obtain ⟨rfl, rfl, hO4, hT4_⟩ := hv
                refine q_istore hJ dL_updates_234 (q := 236) rfl (by decide) ?_
                refine q_iload hJ dL_updates_236 (q := 238) rfl rfl ?_
                refine q_if_eq hJ (tgt := 272) dL_updates_238 (q := 241) rfl (by decide) (fun f1 => absurd f1 (by decide)) (fun _ => ?_)
                refine q_aload_n hJ dL_updates_241 (q := 242) rfl rfl rfl ?_
                refine q_aload_n hJ dL_updates_242 (q := 243) rfl rfl rfl ?_
                refine q_iload hJ dL_updates_243 (q := 245) rfl rfl ?_
                refine q_callS hJ dL_updates_245 (q := 248) rfl (S_came A (XR 1 (updI A k (nI j) x) A) G _ _ hO4 hA hrun hG h8 (hT5'.moved hT4_) (hT4'.moved hT4_)) imL_came ln_L_59 rfl rfl rfl (Nat.le_of_ble_eq_true rfl) (by decide) (by decide) rfl rfl (fun rv gv Iv Rv hv => ?_)
                obtain ⟨rfl, rfl, rfl, rfl⟩ := hv
                refine q_if_eq hJ (tgt := 272) dL_updates_248 (q := 251) rfl (by decide) (fun f2 => absurd f2 (by decide)) (fun _ => ?_)
                refine q_iload hJ dL_updates_251 (q := 253) rfl rfl ?_
                rw [runR, if_neg hz]
                refine q_if_ge hJ (tgt := 268) dL_updates_253 (q := 256) rfl (by decide) (fun f3 => absurd f3 (by decide)) (fun _ => ?_)
                rw [resA, if_neg hz] at hO4
                refine q_aload_n hJ dL_updates_256 (q := 257) rfl rfl rfl ?_
                refine q_iload_n hJ dL_updates_257 (q := 258) rfl rfl ?_
                refine q_iload hJ dL_updates_258 (q := 260) rfl rfl ?_
                refine q_callV hJ dL_updates_260 (q := 263) rfl (O_field k (nI j) hO4) imX10_field ln_L_23 ka_x (by decide) rfl rfl rfl rfl (Nat.le_of_ble_eq_true rfl) (by decide) (by decide) rfl rfl (fun rv gv Iv Rv hv => ?_)
                obtain ⟨rfl, rfl, rfl, rfl⟩ := hv
                refine q_iload hJ dL_updates_263 (q := 265) rfl rfl ?_
                refine q_icmp_ne hJ (tgt := 272) dL_updates_265 (q := 268) rfl (by decide) (fun f4 => absurd rfl f4) (fun _ => ?_)
                refine q_iconst hJ (v := 1) dL_updates_268 (q := 269) rfl (by decide) ?_
                refine q_goto hJ (tgt := 273) dL_updates_269 (by decide) ?_
                refine q_iret hM dL_updates_273 rfl (by decide) ?_
                exact ⟨rfl, rfl, _, hO4, hA⟩
        | succ m ih =>
          intro q I' R' hq hO' h3
          refine q_iload hJ dL_updates_113 (q := 115) rfl rfl ?_
          refine q_iconst hJ (v := 5) dL_updates_115 (q := 116) rfl (by decide) ?_
          refine q_icmp_ge hJ (tgt := 140) dL_updates_116 (q := 119) rfl (by decide) (fun c1 => absurd c1 (nle (a := q) (b := 5) (by omega) (by decide))) (fun _ => ?_)
          refine q_aload_n hJ dL_updates_119 (q := 120) rfl rfl rfl ?_
          refine q_iload hJ dL_updates_120 (q := 122) rfl rfl ?_
          refine q_aload_n hJ dL_updates_122 (q := 123) rfl rfl rfl ?_
          refine q_iload_n hJ dL_updates_123 (q := 124) rfl rfl ?_
          refine q_iload hJ dL_updates_124 (q := 126) rfl rfl ?_
          refine q_iload hJ dL_updates_126 (q := 128) rfl rfl ?_
          refine q_iload hJ dL_updates_128 (q := 130) rfl rfl ?_
          refine q_callV hJ dL_updates_130 (q := 133) rfl ((O_ifUpd k (nI j) x (nI q) hO').valO (ifU_0 h0 (by omega)) rfl) imX10_ifUpdated ln_L_66 ka_x (by decide) rfl rfl rfl rfl (Nat.le_of_ble_eq_true rfl) (by decide) (by decide) rfl rfl (fun rv gv Iv Rv hv => ?_)
          obtain ⟨rfl, rfl, hO1, hT1⟩ := hv
          refine q_iast hJ dL_updates_133 (q := 134) rfl ka_t (ix_t (by omega)) ?_
          refine q_iinc hJ dL_updates_134 (q := 137) rfl (by decide) rfl (nI_1 q) ?_
          refine q_goto hJ (tgt := 113) dL_updates_137 (by decide) ?_
          exact ih (q + 1) _ _ (by omega) (hO1.t _ _) (tel_put h3 hT1 rfl)
      exact loop 5 0 _ _ rfl hO (fun k hk => absurd hk (Nat.not_lt_zero _))
    · refine q_sipush hJ (v := (-1006)) dL_updates_47 (q := 50) rfl (by decide) ?_
      refine q_goto hJ (tgt := 54) dL_updates_50 (by decide) ?_
      refine q_istore hJ dL_updates_54 (q := 56) rfl (by decide) ?_
      refine q_iload hJ dL_updates_56 (q := 58) rfl rfl ?_
      refine q_if_ge hJ (tgt := 110) dL_updates_58 (q := 61) rfl (by decide) (fun c4 => absurd c4 (by decide)) (fun _ => ?_)
      have h0 : updF A k (nI j) x = -1006 := by rw [upd_F hf hj hx, if_pos ((fld_at hf hj).symm.trans c3)]
      have h0n : ¬ updF A k (nI j) x = 0 := by rw [h0]; decide
      refine q_aload_n hJ dL_updates_61 (q := 62) rfl rfl rfl ?_
      refine q_iload_n hJ dL_updates_62 (q := 63) rfl rfl ?_
      refine q_iload hJ dL_updates_63 (q := 65) rfl rfl ?_
      refine q_iload hJ dL_updates_65 (q := 67) rfl rfl ?_
      refine q_callV hJ dL_updates_67 (q := 70) rfl ((O_update k (nI j) x hO).valO ((stR_n h0n).trans h0) (if_neg h0n)) imX10_update ln_L_63 ka_x (by decide) rfl rfl rfl rfl (Nat.le_of_ble_eq_true rfl) (by decide) (by decide) rfl rfl (fun rv gv Iv Rv hv => ?_)
      obtain ⟨rfl, rfl, hO1, hT1⟩ := hv
      refine q_iload hJ dL_updates_70 (q := 72) rfl rfl ?_
      refine q_icmp_ne hJ (tgt := 108) dL_updates_72 (q := 75) rfl (by decide) (fun c5 => absurd rfl c5) (fun _ => ?_)
      refine q_aload_n hJ dL_updates_75 (q := 76) rfl rfl rfl ?_
      refine q_iload_n hJ dL_updates_76 (q := 77) rfl rfl ?_
      refine q_iload hJ dL_updates_77 (q := 79) rfl rfl ?_
      refine q_iload hJ dL_updates_79 (q := 81) rfl rfl ?_
      refine q_iconst hJ (v := 0) dL_updates_81 (q := 82) rfl (by decide) ?_
      refine q_callV hJ dL_updates_82 (q := 85) rfl ((O_ifUpd k (nI j) x 0 hO1).valO (ifU_e h0) rfl) imX10_ifUpdated ln_L_66 ka_x (by decide) rfl rfl rfl rfl (Nat.le_of_ble_eq_true rfl) (by decide) (by decide) rfl rfl (fun rv gv Iv Rv hv => ?_)
      obtain ⟨rfl, rfl, hO2, hT2⟩ := hv
      refine q_iload hJ dL_updates_85 (q := 87) rfl rfl ?_
      refine q_icmp_ne hJ (tgt := 108) dL_updates_87 (q := 90) rfl (by decide) (fun c6 => absurd rfl c6) (fun _ => ?_)
      refine q_aload_n hJ dL_updates_90 (q := 91) rfl rfl rfl ?_
      refine q_iload_n hJ dL_updates_91 (q := 92) rfl rfl ?_
      refine q_iload hJ dL_updates_92 (q := 94) rfl rfl ?_
      refine q_iload hJ dL_updates_94 (q := 96) rfl rfl ?_
      refine q_callV hJ dL_updates_96 (q := 99) rfl ((O_depthFor k (nI j) x hO2).valO ((dpV_n h0n).trans h0) rfl) imX10_depthFor ln_L_69 ka_x (by decide) rfl rfl rfl rfl (Nat.le_of_ble_eq_true rfl) (by decide) (by decide) rfl rfl (fun rv gv Iv Rv hv => ?_)
      obtain ⟨rfl, rfl, hO3, hT3⟩ := hv
      refine q_iload hJ dL_updates_99 (q := 101) rfl rfl ?_
      refine q_icmp_ne hJ (tgt := 108) dL_updates_101 (q := 104) rfl (by decide) (fun c7 => absurd rfl c7) (fun _ => ?_)
      refine q_iconst hJ (v := 1) dL_updates_104 (q := 105) rfl (by decide) ?_
      refine q_goto hJ (tgt := 109) dL_updates_105 (by decide) ?_
      refine q_iret hM dL_updates_109 rfl (by decide) ?_
      exact ⟨rfl, rfl, _, hO3, hA⟩

