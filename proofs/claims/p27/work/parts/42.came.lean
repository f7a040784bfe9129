/-! THE LAW'S METHODS: what came of a statement -/
theorem fin_tell {A : AS} {G : Nat} {X : XS} {f D : Nat} (h : RI A G 1 1 f X) (hG : aS A 0 = nI G) (hD : xD X = nI D) : stTell (finA X) 3 = nI G ∧ stTell (finA X) 5 = aS A 2 + 1 ∧ stTell (finA X) 6 = aS A 3 + nI (xO X) ∧ stTell (finA X) 7 = aS A 4 + nI f ∧ stTell (finA X) 8 = if aS A 5 < nI D then nI D else aS A 5 := by
  have e := h.S
  refine ⟨?_, ?_, ?_, ?_, ?_⟩
  · show aS (xA X) 0 = nI G
    rw [e]; exact hG
  · show aS (xA X) 2 + 1 = _
    rw [e]
  · show aS (xA X) 3 + nI (xO X) = _
    rw [e]
  · show aS (xA X) 4 + xF X = _
    rw [e, h.2.2.2.1]
  · show (if aS (xA X) 5 < xD X then xD X else aS (xA X) 5) = _
    rw [e, hD]
theorem fin_rec {A : AS} {G f D : Nat} {X : XS} {e : Nat → Nat} (h : RI A G 1 1 f X) (hC : RcG (aU A) (aM A) (aC (xA X)) (aR (xA X)) D e) : RcG (aU (finA X)) (aM (finA X)) (aC (finA X)) (aR (finA X)) D e := fun k hk => by
  obtain ⟨z1, z2, z3, z4, ⟨r, hr, zr, hon⟩, zq⟩ := hC k hk
  exact ⟨z1, z2, z3, z4, ⟨r, by show r < aM (xA X); rw [h.M]; exact hr, zr, by show aU (xA X) r 10 = 1; rw [h.rule r 10 (by decide)]; exact hon⟩, zq⟩
set_option maxRecDepth 100000 in
set_option maxHeartbeats 1000000 in
theorem S_came (A : AS) (X : XS) (G : Nat) (I : MI) (R : MR) (hO : Ob I R (resA X A)) (hA : Good A) (hr : Run A G X) (hG : aS A 0 = nI G) (h8 : G ≤ 8) (hT5 : T5 I X) (hT4 : T4 I A) : Sp 39 0 0 mL_came [.ref 0, .ref 317, .int (runR X)] g0 I R (Rt (some (.int 1)) g0 I R) := by
  refine Sp.on (by decide +kernel) rfl rfl (fun J hM => ?_)
  have hJ := hM.ok
  obtain ⟨f, hf24, hO1, hRI⟩ := hr
  have hRI2 := hRI
  obtain ⟨hst, hTb, hO2, hF, hR, ⟨D, e, hD, hD1, hDG, hC, _, hRf⟩, hW⟩ := hRI2
  have hfb : f < 2 ^ 31 := by omega
  have hMl := hA.2.2.1
  obtain ⟨ht0, ht1, ht2, ht3, ht4⟩ := id hT5
  obtain ⟨ht5, ht6, ht7, ht8⟩ := id hT4
  rw [hF] at ht3
  rw [hD] at ht4
  by_cases hz : xR X = 0
  · rw [resA, if_pos hz] at hO
    rw [hz] at ht0
    rw [hW hz] at ht1
    rw [runR, if_pos hz]
    obtain ⟨hg3, hg5, hg6, hg7, hg8⟩ := fin_tell hRI hG hD
    have hMf : aM (finA X) ≤ 12 := by show aM (xA X) ≤ 12; rw [hRI.M]; exact hMl
    by_cases hd : aS A 5 < nI D
    · rw [if_pos hd] at hg8
      refine q_aload_n hJ dL_came_0 (q := 1) rfl rfl rfl ?_
      refine q_iconst hJ (v := 2) dL_came_1 (q := 2) rfl (by decide) ?_
      refine q_iald hJ dL_came_2 (q := 3) rfl ka_t (ix_t (j := 2) (by decide)) ht2 ?_
      refine q_if_le hJ (tgt := 41) dL_came_3 (q := 6) rfl (by decide) (fun c1 => absurd c1 (nI_nle hO1 (by omega))) (fun _ => ?_)
      refine q_aload_n hJ dL_came_6 (q := 7) rfl rfl rfl ?_
      refine q_iconst hJ (v := 2) dL_came_7 (q := 8) rfl (by decide) ?_
      refine q_iald hJ dL_came_8 (q := 9) rfl ka_t (ix_t (j := 2) (by decide)) ht2 ?_
      refine q_bipush hJ (v := 100) dL_came_9 (q := 11) rfl (by decide) ?_
      refine q_icmp_gt hJ (tgt := 41) dL_came_11 (q := 14) rfl (by decide) (fun c2 => absurd c2 (nI_nlt (a := 100) (b := xO X) hO2 (by decide))) (fun _ => ?_)
      refine q_aload_n hJ dL_came_14 (q := 15) rfl rfl rfl ?_
      refine q_iconst hJ (v := 4) dL_came_15 (q := 16) rfl (by decide) ?_
      refine q_iald hJ dL_came_16 (q := 17) rfl ka_t (ix_t (j := 4) (by decide)) ht4 ?_
      refine q_if_le hJ (tgt := 41) dL_came_17 (q := 20) rfl (by decide) (fun c3 => absurd c3 (nI_nle hD1 (by omega))) (fun _ => ?_)
      refine q_aload_n hJ dL_came_20 (q := 21) rfl rfl rfl ?_
      refine q_iconst hJ (v := 4) dL_came_21 (q := 22) rfl (by decide) ?_
      refine q_iald hJ dL_came_22 (q := 23) rfl ka_t (ix_t (j := 4) (by decide)) ht4 ?_
      refine q_aload_n hJ dL_came_23 (q := 24) rfl rfl rfl ?_
      refine q_iconst hJ (v := 3) dL_came_24 (q := 25) rfl (by decide) ?_
      refine q_callV hJ dL_came_25 (q := 28) rfl ((O_total 3 (by decide) (by decide) hO).val hg3) imX10_total ln_L_14 ka_x (by decide) rfl rfl rfl rfl (Nat.le_of_ble_eq_true rfl) (by decide) (by decide) rfl rfl (fun rv gv Iv Rv hv => ?_)
      obtain ⟨rfl, rfl, rfl, rfl⟩ := hv
      refine q_icmp_gt hJ (tgt := 41) dL_came_28 (q := 31) rfl (by decide) (fun c4 => absurd c4 (nI_nlt (a := G) (b := D) hDG (by omega))) (fun _ => ?_)
      refine q_aload_n hJ dL_came_31 (q := 32) rfl rfl rfl ?_
      refine q_iconst hJ (v := 3) dL_came_32 (q := 33) rfl (by decide) ?_
      refine q_iald hJ dL_came_33 (q := 34) rfl ka_t (ix_t (j := 3) (by decide)) ht3 ?_
      refine q_if_lt hJ (tgt := 41) dL_came_34 (q := 37) rfl (by decide) (fun c5 => absurd c5 (nI_pos (by omega))) (fun _ => ?_)
      refine q_iconst hJ (v := 1) dL_came_37 (q := 38) rfl (by decide) ?_
      refine q_goto hJ (tgt := 42) dL_came_38 (by decide) ?_
      refine q_istore_n hJ dL_came_42 (q := 43) rfl (by decide) ?_
      refine q_aload_n hJ dL_came_43 (q := 44) rfl rfl rfl ?_
      refine q_iconst hJ (v := 0) dL_came_44 (q := 45) rfl (by decide) ?_
      refine q_iald hJ dL_came_45 (q := 46) rfl ka_t (ix_t (j := 0) (by decide)) ht0 ?_
      refine q_if_eq hJ (tgt := 124) dL_came_46 (q := 49) rfl (by decide) (fun _ => ?_) (fun c6 => absurd rfl c6)
      refine q_aload_n hJ dL_came_124 (q := 125) rfl rfl rfl ?_
      refine q_iconst hJ (v := 4) dL_came_125 (q := 126) rfl (by decide) ?_
      refine q_iald hJ dL_came_126 (q := 127) rfl ka_t (ix_t (j := 4) (by decide)) ht4 ?_
      refine q_aload_n hJ dL_came_127 (q := 128) rfl rfl rfl ?_
      refine q_bipush hJ (v := 8) dL_came_128 (q := 130) rfl (by decide) ?_
      refine q_iald hJ dL_came_130 (q := 131) rfl ka_t (ix_t (j := 8) (by decide)) ht8 ?_
      refine q_icmp_le hJ (tgt := 140) dL_came_131 (q := 134) rfl (by decide) (fun c7 => absurd c7 (Int32.not_le.mpr hd)) (fun _ => ?_)
      refine q_aload_n hJ dL_came_134 (q := 135) rfl rfl rfl ?_
      refine q_iconst hJ (v := 4) dL_came_135 (q := 136) rfl (by decide) ?_
      refine q_iald hJ dL_came_136 (q := 137) rfl ka_t (ix_t (j := 4) (by decide)) ht4 ?_
      refine q_goto hJ (tgt := 144) dL_came_137 (by decide) ?_
      refine q_istore hJ dL_came_144 (q := 146) rfl (by decide) ?_
      refine q_iload_n hJ dL_came_146 (q := 147) rfl rfl ?_
      refine q_if_eq hJ (tgt := 241) dL_came_147 (q := 150) rfl (by decide) (fun c8 => absurd c8 (by decide)) (fun _ => ?_)
      refine q_iload_n hJ dL_came_150 (q := 151) rfl rfl ?_
      refine q_aload_n hJ dL_came_151 (q := 152) rfl rfl rfl ?_
      refine q_iconst hJ (v := 2) dL_came_152 (q := 153) rfl (by decide) ?_
      refine q_iald hJ dL_came_153 (q := 154) rfl ka_t (ix_t (j := 2) (by decide)) ht2 ?_
      refine q_icmp_ne hJ (tgt := 241) dL_came_154 (q := 157) rfl (by decide) (fun c9 => absurd rfl c9) (fun _ => ?_)
      refine q_aload_n hJ dL_came_157 (q := 158) rfl rfl rfl ?_
      refine q_iconst hJ (v := 1) dL_came_158 (q := 159) rfl (by decide) ?_
      refine q_iald hJ dL_came_159 (q := 160) rfl ka_t (ix_t (j := 1) (by decide)) ht1 ?_
      refine q_sipush hJ (v := (-1006)) dL_came_160 (q := 163) rfl (by decide) ?_
      refine q_icmp_ne hJ (tgt := 241) dL_came_163 (q := 166) rfl (by decide) (fun d1 => absurd rfl d1) (fun _ => ?_)
      refine q_aload_n hJ dL_came_166 (q := 167) rfl rfl rfl ?_
      refine q_iconst hJ (v := 5) dL_came_167 (q := 168) rfl (by decide) ?_
      refine q_callV hJ dL_came_168 (q := 171) rfl ((O_total 5 (by decide) (by decide) hO).val hg5) imX10_total ln_L_14 ka_x (by decide) rfl rfl rfl rfl (Nat.le_of_ble_eq_true rfl) (by decide) (by decide) rfl rfl (fun rv gv Iv Rv hv => ?_)
      obtain ⟨rfl, rfl, rfl, rfl⟩ := hv
      refine q_aload_n hJ dL_came_171 (q := 172) rfl rfl rfl ?_
      refine q_iconst hJ (v := 5) dL_came_172 (q := 173) rfl (by decide) ?_
      refine q_iald hJ dL_came_173 (q := 174) rfl ka_t (ix_t (j := 5) (by decide)) ht5 ?_
      refine q_iconst hJ (v := 1) dL_came_174 (q := 175) rfl (by decide) ?_
      refine q_iadd hJ dL_came_175 (q := 176) rfl ?_
      refine q_icmp_ne hJ (tgt := 241) dL_came_176 (q := 179) rfl (by decide) (fun e0 => absurd rfl e0) (fun _ => ?_)
      refine q_aload_n hJ dL_came_179 (q := 180) rfl rfl rfl ?_
      refine q_bipush hJ (v := 6) dL_came_180 (q := 182) rfl (by decide) ?_
      refine q_callV hJ dL_came_182 (q := 185) rfl ((O_total 6 (by decide) (by decide) hO).val hg6) imX10_total ln_L_14 ka_x (by decide) rfl rfl rfl rfl (Nat.le_of_ble_eq_true rfl) (by decide) (by decide) rfl rfl (fun rv gv Iv Rv hv => ?_)
      obtain ⟨rfl, rfl, rfl, rfl⟩ := hv
      refine q_aload_n hJ dL_came_185 (q := 186) rfl rfl rfl ?_
      refine q_bipush hJ (v := 6) dL_came_186 (q := 188) rfl (by decide) ?_
      refine q_iald hJ dL_came_188 (q := 189) rfl ka_t (ix_t (j := 6) (by decide)) ht6 ?_
      refine q_aload_n hJ dL_came_189 (q := 190) rfl rfl rfl ?_
      refine q_iconst hJ (v := 2) dL_came_190 (q := 191) rfl (by decide) ?_
      refine q_iald hJ dL_came_191 (q := 192) rfl ka_t (ix_t (j := 2) (by decide)) ht2 ?_
      refine q_iadd hJ dL_came_192 (q := 193) rfl ?_
      refine q_icmp_ne hJ (tgt := 241) dL_came_193 (q := 196) rfl (by decide) (fun e1 => absurd rfl e1) (fun _ => ?_)
      refine q_aload_n hJ dL_came_196 (q := 197) rfl rfl rfl ?_
      refine q_bipush hJ (v := 7) dL_came_197 (q := 199) rfl (by decide) ?_
      refine q_callV hJ dL_came_199 (q := 202) rfl ((O_total 7 (by decide) (by decide) hO).val hg7) imX10_total ln_L_14 ka_x (by decide) rfl rfl rfl rfl (Nat.le_of_ble_eq_true rfl) (by decide) (by decide) rfl rfl (fun rv gv Iv Rv hv => ?_)
      obtain ⟨rfl, rfl, rfl, rfl⟩ := hv
      refine q_aload_n hJ dL_came_202 (q := 203) rfl rfl rfl ?_
      refine q_bipush hJ (v := 7) dL_came_203 (q := 205) rfl (by decide) ?_
      refine q_iald hJ dL_came_205 (q := 206) rfl ka_t (ix_t (j := 7) (by decide)) ht7 ?_
      refine q_aload_n hJ dL_came_206 (q := 207) rfl rfl rfl ?_
      refine q_iconst hJ (v := 3) dL_came_207 (q := 208) rfl (by decide) ?_
      refine q_iald hJ dL_came_208 (q := 209) rfl ka_t (ix_t (j := 3) (by decide)) ht3 ?_
      refine q_iadd hJ dL_came_209 (q := 210) rfl ?_
      refine q_icmp_ne hJ (tgt := 241) dL_came_210 (q := 213) rfl (by decide) (fun e2 => absurd rfl e2) (fun _ => ?_)
      refine q_aload_n hJ dL_came_213 (q := 214) rfl rfl rfl ?_
      refine q_bipush hJ (v := 8) dL_came_214 (q := 216) rfl (by decide) ?_
      refine q_callV hJ dL_came_216 (q := 219) rfl ((O_total 8 (by decide) (by decide) hO).val hg8) imX10_total ln_L_14 ka_x (by decide) rfl rfl rfl rfl (Nat.le_of_ble_eq_true rfl) (by decide) (by decide) rfl rfl (fun rv gv Iv Rv hv => ?_)
      obtain ⟨rfl, rfl, rfl, rfl⟩ := hv
      refine q_iload hJ dL_came_219 (q := 221) rfl rfl ?_
      refine q_icmp_ne hJ (tgt := 241) dL_came_221 (q := 224) rfl (by decide) (fun e3 => absurd rfl e3) (fun _ => ?_)
      refine q_aload_n hJ dL_came_224 (q := 225) rfl rfl rfl ?_
      refine q_aload_n hJ dL_came_225 (q := 226) rfl rfl rfl ?_
      refine q_iconst hJ (v := 3) dL_came_226 (q := 227) rfl (by decide) ?_
      refine q_iald hJ dL_came_227 (q := 228) rfl ka_t (ix_t (j := 3) (by decide)) ht3 ?_
      refine q_aload_n hJ dL_came_228 (q := 229) rfl rfl rfl ?_
      refine q_iconst hJ (v := 4) dL_came_229 (q := 230) rfl (by decide) ?_
      refine q_iald hJ dL_came_230 (q := 231) rfl ka_t (ix_t (j := 4) (by decide)) ht4 ?_
      refine q_callS hJ dL_came_231 (q := 234) rfl (S_isRecord (finA X) f D e I R hO hMf (by omega) hfb hR (fin_rec hRI hC)) imL_isRecord ln_L_40 rfl rfl rfl (Nat.le_of_ble_eq_true rfl) (by decide) (by decide) rfl rfl (fun rv gv Iv Rv hv => ?_)
      obtain ⟨rfl, rfl, rfl, rfl⟩ := hv
      refine q_if_eq hJ (tgt := 241) dL_came_234 (q := 237) rfl (by decide) (fun d2 => absurd d2 (by decide)) (fun _ => ?_)
      refine q_iconst hJ (v := 1) dL_came_237 (q := 238) rfl (by decide) ?_
      refine q_goto hJ (tgt := 242) dL_came_238 (by decide) ?_
      refine q_iret hM dL_came_242 rfl (by decide) ?_
      exact ⟨rfl, rfl, rfl, rfl⟩
    · rw [if_neg hd] at hg8
      refine q_aload_n hJ dL_came_0 (q := 1) rfl rfl rfl ?_
      refine q_iconst hJ (v := 2) dL_came_1 (q := 2) rfl (by decide) ?_
      refine q_iald hJ dL_came_2 (q := 3) rfl ka_t (ix_t (j := 2) (by decide)) ht2 ?_
      refine q_if_le hJ (tgt := 41) dL_came_3 (q := 6) rfl (by decide) (fun c1 => absurd c1 (nI_nle hO1 (by omega))) (fun _ => ?_)
      refine q_aload_n hJ dL_came_6 (q := 7) rfl rfl rfl ?_
      refine q_iconst hJ (v := 2) dL_came_7 (q := 8) rfl (by decide) ?_
      refine q_iald hJ dL_came_8 (q := 9) rfl ka_t (ix_t (j := 2) (by decide)) ht2 ?_
      refine q_bipush hJ (v := 100) dL_came_9 (q := 11) rfl (by decide) ?_
      refine q_icmp_gt hJ (tgt := 41) dL_came_11 (q := 14) rfl (by decide) (fun c2 => absurd c2 (nI_nlt (a := 100) (b := xO X) hO2 (by decide))) (fun _ => ?_)
      refine q_aload_n hJ dL_came_14 (q := 15) rfl rfl rfl ?_
      refine q_iconst hJ (v := 4) dL_came_15 (q := 16) rfl (by decide) ?_
      refine q_iald hJ dL_came_16 (q := 17) rfl ka_t (ix_t (j := 4) (by decide)) ht4 ?_
      refine q_if_le hJ (tgt := 41) dL_came_17 (q := 20) rfl (by decide) (fun c3 => absurd c3 (nI_nle hD1 (by omega))) (fun _ => ?_)
      refine q_aload_n hJ dL_came_20 (q := 21) rfl rfl rfl ?_
      refine q_iconst hJ (v := 4) dL_came_21 (q := 22) rfl (by decide) ?_
      refine q_iald hJ dL_came_22 (q := 23) rfl ka_t (ix_t (j := 4) (by decide)) ht4 ?_
      refine q_aload_n hJ dL_came_23 (q := 24) rfl rfl rfl ?_
      refine q_iconst hJ (v := 3) dL_came_24 (q := 25) rfl (by decide) ?_
      refine q_callV hJ dL_came_25 (q := 28) rfl ((O_total 3 (by decide) (by decide) hO).val hg3) imX10_total ln_L_14 ka_x (by decide) rfl rfl rfl rfl (Nat.le_of_ble_eq_true rfl) (by decide) (by decide) rfl rfl (fun rv gv Iv Rv hv => ?_)
      obtain ⟨rfl, rfl, rfl, rfl⟩ := hv
      refine q_icmp_gt hJ (tgt := 41) dL_came_28 (q := 31) rfl (by decide) (fun c4 => absurd c4 (nI_nlt (a := G) (b := D) hDG (by omega))) (fun _ => ?_)
      refine q_aload_n hJ dL_came_31 (q := 32) rfl rfl rfl ?_
      refine q_iconst hJ (v := 3) dL_came_32 (q := 33) rfl (by decide) ?_
      refine q_iald hJ dL_came_33 (q := 34) rfl ka_t (ix_t (j := 3) (by decide)) ht3 ?_
      refine q_if_lt hJ (tgt := 41) dL_came_34 (q := 37) rfl (by decide) (fun c5 => absurd c5 (nI_pos (by omega))) (fun _ => ?_)
      refine q_iconst hJ (v := 1) dL_came_37 (q := 38) rfl (by decide) ?_
      refine q_goto hJ (tgt := 42) dL_came_38 (by decide) ?_
      refine q_istore_n hJ dL_came_42 (q := 43) rfl (by decide) ?_
      refine q_aload_n hJ dL_came_43 (q := 44) rfl rfl rfl ?_
      refine q_iconst hJ (v := 0) dL_came_44 (q := 45) rfl (by decide) ?_
      refine q_iald hJ dL_came_45 (q := 46) rfl ka_t (ix_t (j := 0) (by decide)) ht0 ?_
      refine q_if_eq hJ (tgt := 124) dL_came_46 (q := 49) rfl (by decide) (fun _ => ?_) (fun c6 => absurd rfl c6)
      refine q_aload_n hJ dL_came_124 (q := 125) rfl rfl rfl ?_
      refine q_iconst hJ (v := 4) dL_came_125 (q := 126) rfl (by decide) ?_
      refine q_iald hJ dL_came_126 (q := 127) rfl ka_t (ix_t (j := 4) (by decide)) ht4 ?_
      refine q_aload_n hJ dL_came_127 (q := 128) rfl rfl rfl ?_
      refine q_bipush hJ (v := 8) dL_came_128 (q := 130) rfl (by decide) ?_
      refine q_iald hJ dL_came_130 (q := 131) rfl ka_t (ix_t (j := 8) (by decide)) ht8 ?_
      refine q_icmp_le hJ (tgt := 140) dL_came_131 (q := 134) rfl (by decide) (fun _ => ?_) (fun c7 => absurd (Int32.not_lt.mp hd) c7)
      refine q_aload_n hJ dL_came_140 (q := 141) rfl rfl rfl ?_
      refine q_bipush hJ (v := 8) dL_came_141 (q := 143) rfl (by decide) ?_
      refine q_iald hJ dL_came_143 (q := 144) rfl ka_t (ix_t (j := 8) (by decide)) ht8 ?_
      refine q_istore hJ dL_came_144 (q := 146) rfl (by decide) ?_
      refine q_iload_n hJ dL_came_146 (q := 147) rfl rfl ?_
      refine q_if_eq hJ (tgt := 241) dL_came_147 (q := 150) rfl (by decide) (fun c8 => absurd c8 (by decide)) (fun _ => ?_)
      refine q_iload_n hJ dL_came_150 (q := 151) rfl rfl ?_
      refine q_aload_n hJ dL_came_151 (q := 152) rfl rfl rfl ?_
      refine q_iconst hJ (v := 2) dL_came_152 (q := 153) rfl (by decide) ?_
      refine q_iald hJ dL_came_153 (q := 154) rfl ka_t (ix_t (j := 2) (by decide)) ht2 ?_
      refine q_icmp_ne hJ (tgt := 241) dL_came_154 (q := 157) rfl (by decide) (fun c9 => absurd rfl c9) (fun _ => ?_)
      refine q_aload_n hJ dL_came_157 (q := 158) rfl rfl rfl ?_
      refine q_iconst hJ (v := 1) dL_came_158 (q := 159) rfl (by decide) ?_
      refine q_iald hJ dL_came_159 (q := 160) rfl ka_t (ix_t (j := 1) (by decide)) ht1 ?_
      refine q_sipush hJ (v := (-1006)) dL_came_160 (q := 163) rfl (by decide) ?_
      refine q_icmp_ne hJ (tgt := 241) dL_came_163 (q := 166) rfl (by decide) (fun d1 => absurd rfl d1) (fun _ => ?_)
      refine q_aload_n hJ dL_came_166 (q := 167) rfl rfl rfl ?_
      refine q_iconst hJ (v := 5) dL_came_167 (q := 168) rfl (by decide) ?_
      refine q_callV hJ dL_came_168 (q := 171) rfl ((O_total 5 (by decide) (by decide) hO).val hg5) imX10_total ln_L_14 ka_x (by decide) rfl rfl rfl rfl (Nat.le_of_ble_eq_true rfl) (by decide) (by decide) rfl rfl (fun rv gv Iv Rv hv => ?_)
      obtain ⟨rfl, rfl, rfl, rfl⟩ := hv
      refine q_aload_n hJ dL_came_171 (q := 172) rfl rfl rfl ?_
      refine q_iconst hJ (v := 5) dL_came_172 (q := 173) rfl (by decide) ?_
      refine q_iald hJ dL_came_173 (q := 174) rfl ka_t (ix_t (j := 5) (by decide)) ht5 ?_
      refine q_iconst hJ (v := 1) dL_came_174 (q := 175) rfl (by decide) ?_
      refine q_iadd hJ dL_came_175 (q := 176) rfl ?_
      refine q_icmp_ne hJ (tgt := 241) dL_came_176 (q := 179) rfl (by decide) (fun e0 => absurd rfl e0) (fun _ => ?_)
      refine q_aload_n hJ dL_came_179 (q := 180) rfl rfl rfl ?_
      refine q_bipush hJ (v := 6) dL_came_180 (q := 182) rfl (by decide) ?_
      refine q_callV hJ dL_came_182 (q := 185) rfl ((O_total 6 (by decide) (by decide) hO).val hg6) imX10_total ln_L_14 ka_x (by decide) rfl rfl rfl rfl (Nat.le_of_ble_eq_true rfl) (by decide) (by decide) rfl rfl (fun rv gv Iv Rv hv => ?_)
      obtain ⟨rfl, rfl, rfl, rfl⟩ := hv
      refine q_aload_n hJ dL_came_185 (q := 186) rfl rfl rfl ?_
      refine q_bipush hJ (v := 6) dL_came_186 (q := 188) rfl (by decide) ?_
      refine q_iald hJ dL_came_188 (q := 189) rfl ka_t (ix_t (j := 6) (by decide)) ht6 ?_
      refine q_aload_n hJ dL_came_189 (q := 190) rfl rfl rfl ?_
      refine q_iconst hJ (v := 2) dL_came_190 (q := 191) rfl (by decide) ?_
      refine q_iald hJ dL_came_191 (q := 192) rfl ka_t (ix_t (j := 2) (by decide)) ht2 ?_
      refine q_iadd hJ dL_came_192 (q := 193) rfl ?_
      refine q_icmp_ne hJ (tgt := 241) dL_came_193 (q := 196) rfl (by decide) (fun e1 => absurd rfl e1) (fun _ => ?_)
      refine q_aload_n hJ dL_came_196 (q := 197) rfl rfl rfl ?_
      refine q_bipush hJ (v := 7) dL_came_197 (q := 199) rfl (by decide) ?_
      refine q_callV hJ dL_came_199 (q := 202) rfl ((O_total 7 (by decide) (by decide) hO).val hg7) imX10_total ln_L_14 ka_x (by decide) rfl rfl rfl rfl (Nat.le_of_ble_eq_true rfl) (by decide) (by decide) rfl rfl (fun rv gv Iv Rv hv => ?_)
      obtain ⟨rfl, rfl, rfl, rfl⟩ := hv
      refine q_aload_n hJ dL_came_202 (q := 203) rfl rfl rfl ?_
      refine q_bipush hJ (v := 7) dL_came_203 (q := 205) rfl (by decide) ?_
      refine q_iald hJ dL_came_205 (q := 206) rfl ka_t (ix_t (j := 7) (by decide)) ht7 ?_
      refine q_aload_n hJ dL_came_206 (q := 207) rfl rfl rfl ?_
      refine q_iconst hJ (v := 3) dL_came_207 (q := 208) rfl (by decide) ?_
      refine q_iald hJ dL_came_208 (q := 209) rfl ka_t (ix_t (j := 3) (by decide)) ht3 ?_
      refine q_iadd hJ dL_came_209 (q := 210) rfl ?_
      refine q_icmp_ne hJ (tgt := 241) dL_came_210 (q := 213) rfl (by decide) (fun e2 => absurd rfl e2) (fun _ => ?_)
      refine q_aload_n hJ dL_came_213 (q := 214) rfl rfl rfl ?_
      refine q_bipush hJ (v := 8) dL_came_214 (q := 216) rfl (by decide) ?_
      refine q_callV hJ dL_came_216 (q := 219) rfl ((O_total 8 (by decide) (by decide) hO).val hg8) imX10_total ln_L_14 ka_x (by decide) rfl rfl rfl rfl (Nat.le_of_ble_eq_true rfl) (by decide) (by decide) rfl rfl (fun rv gv Iv Rv hv => ?_)
      obtain ⟨rfl, rfl, rfl, rfl⟩ := hv
      refine q_iload hJ dL_came_219 (q := 221) rfl rfl ?_
      refine q_icmp_ne hJ (tgt := 241) dL_came_221 (q := 224) rfl (by decide) (fun e3 => absurd rfl e3) (fun _ => ?_)
      refine q_aload_n hJ dL_came_224 (q := 225) rfl rfl rfl ?_
      refine q_aload_n hJ dL_came_225 (q := 226) rfl rfl rfl ?_
      refine q_iconst hJ (v := 3) dL_came_226 (q := 227) rfl (by decide) ?_
      refine q_iald hJ dL_came_227 (q := 228) rfl ka_t (ix_t (j := 3) (by decide)) ht3 ?_
      refine q_aload_n hJ dL_came_228 (q := 229) rfl rfl rfl ?_
      refine q_iconst hJ (v := 4) dL_came_229 (q := 230) rfl (by decide) ?_
      refine q_iald hJ dL_came_230 (q := 231) rfl ka_t (ix_t (j := 4) (by decide)) ht4 ?_
      refine q_callS hJ dL_came_231 (q := 234) rfl (S_isRecord (finA X) f D e I R hO hMf (by omega) hfb hR (fin_rec hRI hC)) imL_isRecord ln_L_40 rfl rfl rfl (Nat.le_of_ble_eq_true rfl) (by decide) (by decide) rfl rfl (fun rv gv Iv Rv hv => ?_)
      obtain ⟨rfl, rfl, rfl, rfl⟩ := hv
      refine q_if_eq hJ (tgt := 241) dL_came_234 (q := 237) rfl (by decide) (fun d2 => absurd d2 (by decide)) (fun _ => ?_)
      refine q_iconst hJ (v := 1) dL_came_237 (q := 238) rfl (by decide) ?_
      refine q_goto hJ (tgt := 242) dL_came_238 (by decide) ?_
      refine q_iret hM dL_came_242 rfl (by decide) ?_
      exact ⟨rfl, rfl, rfl, rfl⟩
  · rw [resA, if_neg hz] at hO
    rw [runR, if_neg hz]
    have hg3 : stTell A 3 = nI G := hG
    obtain ⟨r, hr, h1, hon, hf0, hy⟩ := hRf hz
    refine q_aload_n hJ dL_came_0 (q := 1) rfl rfl rfl ?_
    refine q_iconst hJ (v := 2) dL_came_1 (q := 2) rfl (by decide) ?_
    refine q_iald hJ dL_came_2 (q := 3) rfl ka_t (ix_t (j := 2) (by decide)) ht2 ?_
    refine q_if_le hJ (tgt := 41) dL_came_3 (q := 6) rfl (by decide) (fun c1 => absurd c1 (nI_nle hO1 (by omega))) (fun _ => ?_)
    refine q_aload_n hJ dL_came_6 (q := 7) rfl rfl rfl ?_
    refine q_iconst hJ (v := 2) dL_came_7 (q := 8) rfl (by decide) ?_
    refine q_iald hJ dL_came_8 (q := 9) rfl ka_t (ix_t (j := 2) (by decide)) ht2 ?_
    refine q_bipush hJ (v := 100) dL_came_9 (q := 11) rfl (by decide) ?_
    refine q_icmp_gt hJ (tgt := 41) dL_came_11 (q := 14) rfl (by decide) (fun c2 => absurd c2 (nI_nlt (a := 100) (b := xO X) hO2 (by decide))) (fun _ => ?_)
    refine q_aload_n hJ dL_came_14 (q := 15) rfl rfl rfl ?_
    refine q_iconst hJ (v := 4) dL_came_15 (q := 16) rfl (by decide) ?_
    refine q_iald hJ dL_came_16 (q := 17) rfl ka_t (ix_t (j := 4) (by decide)) ht4 ?_
    refine q_if_le hJ (tgt := 41) dL_came_17 (q := 20) rfl (by decide) (fun c3 => absurd c3 (nI_nle hD1 (by omega))) (fun _ => ?_)
    refine q_aload_n hJ dL_came_20 (q := 21) rfl rfl rfl ?_
    refine q_iconst hJ (v := 4) dL_came_21 (q := 22) rfl (by decide) ?_
    refine q_iald hJ dL_came_22 (q := 23) rfl ka_t (ix_t (j := 4) (by decide)) ht4 ?_
    refine q_aload_n hJ dL_came_23 (q := 24) rfl rfl rfl ?_
    refine q_iconst hJ (v := 3) dL_came_24 (q := 25) rfl (by decide) ?_
    refine q_callV hJ dL_came_25 (q := 28) rfl ((O_total 3 (by decide) (by decide) hO).val hg3) imX10_total ln_L_14 ka_x (by decide) rfl rfl rfl rfl (Nat.le_of_ble_eq_true rfl) (by decide) (by decide) rfl rfl (fun rv gv Iv Rv hv => ?_)
    obtain ⟨rfl, rfl, rfl, rfl⟩ := hv
    refine q_icmp_gt hJ (tgt := 41) dL_came_28 (q := 31) rfl (by decide) (fun c4 => absurd c4 (nI_nlt (a := G) (b := D) hDG (by omega))) (fun _ => ?_)
    refine q_aload_n hJ dL_came_31 (q := 32) rfl rfl rfl ?_
    refine q_iconst hJ (v := 3) dL_came_32 (q := 33) rfl (by decide) ?_
    refine q_iald hJ dL_came_33 (q := 34) rfl ka_t (ix_t (j := 3) (by decide)) ht3 ?_
    refine q_if_lt hJ (tgt := 41) dL_came_34 (q := 37) rfl (by decide) (fun c5 => absurd c5 (nI_pos (by omega))) (fun _ => ?_)
    refine q_iconst hJ (v := 1) dL_came_37 (q := 38) rfl (by decide) ?_
    refine q_goto hJ (tgt := 42) dL_came_38 (by decide) ?_
    refine q_istore_n hJ dL_came_42 (q := 43) rfl (by decide) ?_
    refine q_aload_n hJ dL_came_43 (q := 44) rfl rfl rfl ?_
    refine q_iconst hJ (v := 0) dL_came_44 (q := 45) rfl (by decide) ?_
    refine q_iald hJ dL_came_45 (q := 46) rfl ka_t (ix_t (j := 0) (by decide)) ht0 ?_
    refine q_if_eq hJ (tgt := 124) dL_came_46 (q := 49) rfl (by decide) (fun c6 => absurd c6 hz) (fun _ => ?_)
    refine q_iload_n hJ dL_came_49 (q := 50) rfl rfl ?_
    refine q_if_eq hJ (tgt := 122) dL_came_50 (q := 53) rfl (by decide) (fun c7 => absurd c7 (by decide)) (fun _ => ?_)
    refine q_iload_n hJ dL_came_53 (q := 54) rfl rfl ?_
    refine q_sipush hJ (v := (-1005)) dL_came_54 (q := 57) rfl (by decide) ?_
    refine q_icmp_ne hJ (tgt := 122) dL_came_57 (q := 60) rfl (by decide) (fun c8 => absurd rfl c8) (fun _ => ?_)
    refine q_aload_n hJ dL_came_60 (q := 61) rfl rfl rfl ?_
    refine q_aload_n hJ dL_came_61 (q := 62) rfl rfl rfl ?_
    refine q_callS hJ dL_came_62 (q := 65) rfl (S_isRefused A X G r f D I R hO hMl hT5 hr h1 hon hf0 hfb hF hD hg3 hy) imL_isRefused ln_L_36 rfl rfl rfl (Nat.le_of_ble_eq_true rfl) (by decide) (by decide) rfl rfl (fun rv gv Iv Rv hv => ?_)
    obtain ⟨rfl, rfl, rfl, rfl⟩ := hv
    refine q_if_eq hJ (tgt := 122) dL_came_65 (q := 68) rfl (by decide) (fun c9 => absurd c9 (by decide)) (fun _ => ?_)
    refine q_aload_n hJ dL_came_68 (q := 69) rfl rfl rfl ?_
    refine q_iconst hJ (v := 5) dL_came_69 (q := 70) rfl (by decide) ?_
    refine q_callV hJ dL_came_70 (q := 73) rfl ((O_total 5 (by decide) (by decide) hO).val (w := aS A 2) rfl) imX10_total ln_L_14 ka_x (by decide) rfl rfl rfl rfl (Nat.le_of_ble_eq_true rfl) (by decide) (by decide) rfl rfl (fun rv gv Iv Rv hv => ?_)
    obtain ⟨rfl, rfl, rfl, rfl⟩ := hv
    refine q_aload_n hJ dL_came_73 (q := 74) rfl rfl rfl ?_
    refine q_iconst hJ (v := 5) dL_came_74 (q := 75) rfl (by decide) ?_
    refine q_iald hJ dL_came_75 (q := 76) rfl ka_t (ix_t (j := 5) (by decide)) ht5 ?_
    refine q_icmp_ne hJ (tgt := 122) dL_came_76 (q := 79) rfl (by decide) (fun e0 => absurd rfl e0) (fun _ => ?_)
    refine q_aload_n hJ dL_came_79 (q := 80) rfl rfl rfl ?_
    refine q_bipush hJ (v := 6) dL_came_80 (q := 82) rfl (by decide) ?_
    refine q_callV hJ dL_came_82 (q := 85) rfl ((O_total 6 (by decide) (by decide) hO).val (w := aS A 3) rfl) imX10_total ln_L_14 ka_x (by decide) rfl rfl rfl rfl (Nat.le_of_ble_eq_true rfl) (by decide) (by decide) rfl rfl (fun rv gv Iv Rv hv => ?_)
    obtain ⟨rfl, rfl, rfl, rfl⟩ := hv
    refine q_aload_n hJ dL_came_85 (q := 86) rfl rfl rfl ?_
    refine q_bipush hJ (v := 6) dL_came_86 (q := 88) rfl (by decide) ?_
    refine q_iald hJ dL_came_88 (q := 89) rfl ka_t (ix_t (j := 6) (by decide)) ht6 ?_
    refine q_icmp_ne hJ (tgt := 122) dL_came_89 (q := 92) rfl (by decide) (fun e1 => absurd rfl e1) (fun _ => ?_)
    refine q_aload_n hJ dL_came_92 (q := 93) rfl rfl rfl ?_
    refine q_bipush hJ (v := 7) dL_came_93 (q := 95) rfl (by decide) ?_
    refine q_callV hJ dL_came_95 (q := 98) rfl ((O_total 7 (by decide) (by decide) hO).val (w := aS A 4) rfl) imX10_total ln_L_14 ka_x (by decide) rfl rfl rfl rfl (Nat.le_of_ble_eq_true rfl) (by decide) (by decide) rfl rfl (fun rv gv Iv Rv hv => ?_)
    obtain ⟨rfl, rfl, rfl, rfl⟩ := hv
    refine q_aload_n hJ dL_came_98 (q := 99) rfl rfl rfl ?_
    refine q_bipush hJ (v := 7) dL_came_99 (q := 101) rfl (by decide) ?_
    refine q_iald hJ dL_came_101 (q := 102) rfl ka_t (ix_t (j := 7) (by decide)) ht7 ?_
    refine q_icmp_ne hJ (tgt := 122) dL_came_102 (q := 105) rfl (by decide) (fun e2 => absurd rfl e2) (fun _ => ?_)
    refine q_aload_n hJ dL_came_105 (q := 106) rfl rfl rfl ?_
    refine q_bipush hJ (v := 8) dL_came_106 (q := 108) rfl (by decide) ?_
    refine q_callV hJ dL_came_108 (q := 111) rfl ((O_total 8 (by decide) (by decide) hO).val (w := aS A 5) rfl) imX10_total ln_L_14 ka_x (by decide) rfl rfl rfl rfl (Nat.le_of_ble_eq_true rfl) (by decide) (by decide) rfl rfl (fun rv gv Iv Rv hv => ?_)
    obtain ⟨rfl, rfl, rfl, rfl⟩ := hv
    refine q_aload_n hJ dL_came_111 (q := 112) rfl rfl rfl ?_
    refine q_bipush hJ (v := 8) dL_came_112 (q := 114) rfl (by decide) ?_
    refine q_iald hJ dL_came_114 (q := 115) rfl ka_t (ix_t (j := 8) (by decide)) ht8 ?_
    refine q_icmp_ne hJ (tgt := 122) dL_came_115 (q := 118) rfl (by decide) (fun e3 => absurd rfl e3) (fun _ => ?_)
    refine q_iconst hJ (v := 1) dL_came_118 (q := 119) rfl (by decide) ?_
    refine q_goto hJ (tgt := 123) dL_came_119 (by decide) ?_
    refine q_iret hM dL_came_123 rfl (by decide) ?_
    exact ⟨rfl, rfl, rfl, rfl⟩

