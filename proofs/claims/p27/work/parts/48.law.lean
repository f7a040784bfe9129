/-! THE LAW, from its entry -/
set_option maxRecDepth 10000 in
theorem stm_0 (tx : Nat → Int32) (F : Nat → Int32) : (stmS tx 0 P0 F).1 = (0, true) := rfl
theorem cnt_0 (tx : Nat → Int32) (F : Nat → Int32) : cntV (cntR tx 0 F) = -2000 := by
  have h := stm_0 tx F
  have h2 : cntR tx 0 F = ((stmS tx 0 P0 F).1, 0 + 1, (stmS tx 0 P0 F).2) := by
    show cntF tx 0 (79 + 1) 0 P0 F = _
    rw [cntF, if_pos (Or.inl (by rw [h]))]
  rw [h2, cntV]
  show (if (stmS tx 0 P0 F).1.2 = true then -2000 - nI (stmS tx 0 P0 F).1.1 else _) = _
  rw [h]
  rfl
theorem prf_0 (tx : Nat → Int32) (F : Nat → Int32) : prfV A0 tx 0 F = -2000 := by
  have h := cnt_0 tx F
  rw [prfV, h, if_pos (by decide)]
theorem prf_no (tx : Nat → Int32) (F : Nat → Int32) : ¬ prfOk A0 tx 0 F := fun z => z.1 (by rw [cnt_0]; decide)
theorem del_100 {A : AS} (hA : Good A) : dltF A 100 = -1001 := by
  rcases hf : fK A 100 with _ | i
  · rw [dltF, hf]; rfl
  · obtain ⟨hi, hk⟩ := fnd_row hf
    obtain ⟨q, hq, e⟩ := hA.2.1.2.1.1 i hi
    exact absurd ((nI_eq (a := q) (b := 100) (by omega) (by decide)).mp (e.symm.trans hk)) (by omega)
set_option maxRecDepth 100000 in
set_option maxHeartbeats 4000000 in
theorem law_loop {nm : String} {L : Nat} {xs : Nat → Int32} {J : JT} (hL : OkL nm L xs J) (hL4 : L ≤ 260) : ∀ (m e : Nat) (A : AS) (I : MI) (R : MR), m + e = 70 → Ob I R A → Good A → J 318 3449 64 [some (.float 0), some (.ref 0), some (.ref 317), some (.int (nI e))] [] g0 I R := by
  have hJ := hL.ok
  intro m
  induction m with
  | zero =>
    intro e A I R he hO hA
    have ins_a : insF A 100 0 0 0 = -1002 := rfl
    have ins_b : insF A 0 0 1000 0 = -1002 := rfl
    refine q_iload_n hJ dL_law_64 (q := 65) rfl rfl ?_
    refine q_bipush hJ (v := 70) dL_law_65 (q := 67) rfl (by decide) ?_
    refine q_icmp_ge hJ (tgt := 112) dL_law_67 (q := 70) rfl (by decide) (fun _ => ?_) (fun c1 => absurd ((nI_leI (a := 70) (b := e) (by decide) (by omega)).mpr (by omega)) c1)
    refine q_aload_n hJ dL_law_112 (q := 113) rfl rfl (by first | rfl | exact isR_rr _) ?_
    refine q_bipush hJ (v := 100) dL_law_113 (q := 115) rfl (by decide) ?_
    refine q_iconst hJ (v := 0) dL_law_115 (q := 116) rfl (by decide) ?_
    refine q_iconst hJ (v := 0) dL_law_116 (q := 117) rfl (by decide) ?_
    refine q_iconst hJ (v := 0) dL_law_117 (q := 118) rfl (by decide) ?_
    refine q_callV hJ dL_law_118 (q := 121) rfl ((O_insert 100 0 0 0 hO).valO ((stR_n (by rw [ins_a]; decide)).trans ins_a) (if_neg (by rw [ins_a]; decide))) imX10_insert ln_L_47 ka_x (by decide) rfl rfl rfl rfl (Nat.le_of_ble_eq_true rfl) (by decide) (by decide) rfl rfl (fun rv gv Iv Rv hv => ?_)
    obtain ⟨rfl, rfl, hO1, hT1⟩ := hv
    refine q_sipush hJ (v := (-1002)) dL_law_121 (q := 124) rfl (by decide) ?_
    refine q_icmp_ne hJ (tgt := 255) dL_law_124 (q := 127) rfl (by decide) (fun d1 => absurd rfl d1) (fun _ => ?_)
    refine q_aload_n hJ dL_law_127 (q := 128) rfl rfl (by first | rfl | exact isR_rr _) ?_
    refine q_iconst hJ (v := 0) dL_law_128 (q := 129) rfl (by decide) ?_
    refine q_iconst hJ (v := 0) dL_law_129 (q := 130) rfl (by decide) ?_
    refine q_sipush hJ (v := 1000) dL_law_130 (q := 133) rfl (by decide) ?_
    refine q_iconst hJ (v := 0) dL_law_133 (q := 134) rfl (by decide) ?_
    refine q_callV hJ dL_law_134 (q := 137) rfl ((O_insert 0 0 1000 0 hO1).valO ((stR_n (by rw [ins_b]; decide)).trans ins_b) (if_neg (by rw [ins_b]; decide))) imX10_insert ln_L_47 ka_x (by decide) rfl rfl rfl rfl (Nat.le_of_ble_eq_true rfl) (by decide) (by decide) rfl rfl (fun rv gv Iv Rv hv => ?_)
    obtain ⟨rfl, rfl, hO2, hT2⟩ := hv
    refine q_sipush hJ (v := (-1002)) dL_law_137 (q := 140) rfl (by decide) ?_
    refine q_icmp_ne hJ (tgt := 255) dL_law_140 (q := 143) rfl (by decide) (fun d2 => absurd rfl d2) (fun _ => ?_)
    refine q_aload_n hJ dL_law_143 (q := 144) rfl rfl (by first | rfl | exact isR_rr _) ?_
    refine q_bipush hJ (v := 100) dL_law_144 (q := 146) rfl (by decide) ?_
    refine q_callV hJ dL_law_146 (q := 149) rfl ((O_delete 100 hO2).valO ((stR_n (by rw [del_100 hA]; decide)).trans (del_100 hA)) (if_neg (by rw [del_100 hA]; decide))) imX10_delete ln_L_72 ka_x (by decide) rfl rfl rfl rfl (Nat.le_of_ble_eq_true rfl) (by decide) (by decide) rfl rfl (fun rv gv Iv Rv hv => ?_)
    obtain ⟨rfl, rfl, hO3, hT3⟩ := hv
    refine q_sipush hJ (v := (-1001)) dL_law_149 (q := 152) rfl (by decide) ?_
    refine q_icmp_ne hJ (tgt := 255) dL_law_152 (q := 155) rfl (by decide) (fun d3 => absurd rfl d3) (fun _ => ?_)
    refine q_aload_n hJ dL_law_155 (q := 156) rfl rfl (by first | rfl | exact isR_rr _) ?_
    refine q_iconst hJ (v := 2) dL_law_156 (q := 157) rfl (by decide) ?_
    refine q_iconst hJ (v := 0) dL_law_157 (q := 158) rfl (by decide) ?_
    refine q_callV hJ dL_law_158 (q := 161) rfl ((O_set 2 0 hO3).valQ (w := -1001) rfl) imX10_set ln_L_96 ka_x (by decide) rfl rfl rfl rfl (Nat.le_of_ble_eq_true rfl) (by decide) (by decide) rfl rfl (fun rv gv Iv Rv hv => ?_)
    obtain ⟨rfl, rfl, ⟨hY4, hN4⟩, hT4⟩ := hv
    have hO4 := hN4 (fun z => z.1 rfl)
    refine q_sipush hJ (v := (-1001)) dL_law_161 (q := 164) rfl (by decide) ?_
    refine q_icmp_ne hJ (tgt := 255) dL_law_164 (q := 167) rfl (by decide) (fun e3 => absurd rfl e3) (fun _ => ?_)
    refine q_aload_n hJ dL_law_167 (q := 168) rfl rfl (by first | rfl | exact isR_rr _) ?_
    refine q_iconst hJ (v := 0) dL_law_168 (q := 169) rfl (by decide) ?_
    refine q_bipush hJ (v := 9) dL_law_169 (q := 171) rfl (by decide) ?_
    refine q_callV hJ dL_law_171 (q := 174) rfl ((O_set 0 9 hO4).valQ (w := -1002) rfl) imX10_set ln_L_96 ka_x (by decide) rfl rfl rfl rfl (Nat.le_of_ble_eq_true rfl) (by decide) (by decide) rfl rfl (fun rv gv Iv Rv hv => ?_)
    obtain ⟨rfl, rfl, ⟨hY5, hN5⟩, hT5⟩ := hv
    have hO5 := hN5 (fun z => z.2.1 rfl)
    refine q_sipush hJ (v := (-1002)) dL_law_174 (q := 177) rfl (by decide) ?_
    refine q_icmp_ne hJ (tgt := 255) dL_law_177 (q := 180) rfl (by decide) (fun e4 => absurd rfl e4) (fun _ => ?_)
    refine q_aload_n hJ dL_law_180 (q := 181) rfl rfl (by first | rfl | exact isR_rr _) ?_
    refine q_iconst hJ (v := 0) dL_law_181 (q := 182) rfl (by decide) ?_
    refine q_iconst hJ (v := 0) dL_law_182 (q := 183) rfl (by decide) ?_
    refine q_callV hJ dL_law_183 (q := 186) rfl ((O_set 0 0 hO5).valQ (w := -1002) rfl) imX10_set ln_L_96 ka_x (by decide) rfl rfl rfl rfl (Nat.le_of_ble_eq_true rfl) (by decide) (by decide) rfl rfl (fun rv gv Iv Rv hv => ?_)
    obtain ⟨rfl, rfl, ⟨hY6, hN6⟩, hT6⟩ := hv
    have hO6 := hN6 (fun z => z.2.1 rfl)
    refine q_sipush hJ (v := (-1002)) dL_law_186 (q := 189) rfl (by decide) ?_
    refine q_icmp_ne hJ (tgt := 255) dL_law_189 (q := 192) rfl (by decide) (fun e5 => absurd rfl e5) (fun _ => ?_)
    refine q_aload_n hJ dL_law_192 (q := 193) rfl rfl (by first | rfl | exact isR_rr _) ?_
    refine q_bipush hJ (v := 12) dL_law_193 (q := 195) rfl (by decide) ?_
    refine q_callV hJ dL_law_195 (q := 198) rfl ((O_total 12 (by decide) (by decide) hO6).val (w := -1002) rfl) imX10_total ln_L_14 ka_x (by decide) rfl rfl rfl rfl (Nat.le_of_ble_eq_true rfl) (by decide) (by decide) rfl rfl (fun rv gv Iv Rv hv => ?_)
    obtain ⟨rfl, rfl, rfl, rfl⟩ := hv
    refine q_sipush hJ (v := (-1002)) dL_law_198 (q := 201) rfl (by decide) ?_
    refine q_icmp_ne hJ (tgt := 255) dL_law_201 (q := 204) rfl (by decide) (fun e9 => absurd rfl e9) (fun _ => ?_)
    refine q_aload_n hJ dL_law_204 (q := 205) rfl rfl (by first | rfl | exact isR_rr _) ?_
    refine q_iconst hJ (v := 3) dL_law_205 (q := 206) rfl (by decide) ?_
    refine q_iconst hJ (v := 0) dL_law_206 (q := 207) rfl (by decide) ?_
    refine q_iconst hJ (v := 0) dL_law_207 (q := 208) rfl (by decide) ?_
    refine q_callV hJ dL_law_208 (q := 211) rfl ((O_order 3 0 0 hO6).val (w := -1002) rfl) imX10_order ln_L_29 ka_x (by decide) rfl rfl rfl rfl (Nat.le_of_ble_eq_true rfl) (by decide) (by decide) rfl rfl (fun rv gv Iv Rv hv => ?_)
    obtain ⟨rfl, rfl, rfl, rfl⟩ := hv
    refine q_sipush hJ (v := (-1002)) dL_law_211 (q := 214) rfl (by decide) ?_
    refine q_icmp_ne hJ (tgt := 255) dL_law_214 (q := 217) rfl (by decide) (fun e10 => absurd rfl e10) (fun _ => ?_)
    refine q_aload_n hJ dL_law_217 (q := 218) rfl rfl (by first | rfl | exact isR_rr _) ?_
    refine q_iconst hJ (v := 0) dL_law_218 (q := 219) rfl (by decide) ?_
    refine q_iconst hJ (v := 0) dL_law_219 (q := 220) rfl (by decide) ?_
    refine q_iconst hJ (v := 0) dL_law_220 (q := 221) rfl (by decide) ?_
    refine q_iconst hJ (v := 3) dL_law_221 (q := 222) rfl (by decide) ?_
    refine q_iconst hJ (v := 0) dL_law_222 (q := 223) rfl (by decide) ?_
    refine q_iconst hJ (v := 0) dL_law_223 (q := 224) rfl (by decide) ?_
    refine q_iconst hJ (v := 0) dL_law_224 (q := 225) rfl (by decide) ?_
    refine q_callV hJ dL_law_225 (q := 228) rfl ((O_add 0 0 0 3 0 0 0 hO6).valQ (w := -1002) (if_pos (by decide))) imX10_addRule ln_L_78 ka_x (by decide) rfl rfl rfl rfl (Nat.le_of_ble_eq_true rfl) (by decide) (by decide) rfl rfl (fun rv gv Iv Rv hv => ?_)
    obtain ⟨rfl, rfl, ⟨hY7, hN7⟩, hT7⟩ := hv
    have hO7 := hN7 (fun z => z.1 (by decide))
    refine q_sipush hJ (v := (-1002)) dL_law_228 (q := 231) rfl (by decide) ?_
    refine q_icmp_ne hJ (tgt := 255) dL_law_231 (q := 234) rfl (by decide) (fun f6 => absurd rfl f6) (fun _ => ?_)
    refine q_aload_n hJ dL_law_234 (q := 235) rfl rfl (by first | rfl | exact isR_rr _) ?_
    refine q_iconst hJ (v := 0) dL_law_235 (q := 236) rfl (by decide) ?_
    refine q_iconst hJ (v := 1) dL_law_236 (q := 237) rfl (by decide) ?_
    refine q_iconst hJ (v := 0) dL_law_237 (q := 238) rfl (by decide) ?_
    refine q_iconst hJ (v := 2) dL_law_238 (q := 239) rfl (by decide) ?_
    refine q_iconst hJ (v := 0) dL_law_239 (q := 240) rfl (by decide) ?_
    refine q_iconst hJ (v := 0) dL_law_240 (q := 241) rfl (by decide) ?_
    refine q_iconst hJ (v := 0) dL_law_241 (q := 242) rfl (by decide) ?_
    refine q_callV hJ dL_law_242 (q := 245) rfl ((O_add 0 1 0 2 0 0 0 hO7).valQ (w := -1002) (if_pos (by decide))) imX10_addRule ln_L_78 ka_x (by decide) rfl rfl rfl rfl (Nat.le_of_ble_eq_true rfl) (by decide) (by decide) rfl rfl (fun rv gv Iv Rv hv => ?_)
    obtain ⟨rfl, rfl, ⟨hY8, hN8⟩, hT8⟩ := hv
    have hO8 := hN8 (fun z => z.1 (by decide))
    refine q_sipush hJ (v := (-1002)) dL_law_245 (q := 248) rfl (by decide) ?_
    refine q_icmp_ne hJ (tgt := 255) dL_law_248 (q := 251) rfl (by decide) (fun f7 => absurd rfl f7) (fun _ => ?_)
    refine q_iconst hJ (v := 1) dL_law_251 (q := 252) rfl (by decide) ?_
    refine q_goto hJ (tgt := 256) dL_law_252 (by decide) ?_
    exact q_lret hL dL_law_256 (by decide) (by decide)
  | succ m ih =>
    intro e A I R he hO hA
    refine q_iload_n hJ dL_law_64 (q := 65) rfl rfl ?_
    refine q_bipush hJ (v := 70) dL_law_65 (q := 67) rfl (by decide) ?_
    refine q_icmp_ge hJ (tgt := 112) dL_law_67 (q := 70) rfl (by decide) (fun c1 => absurd c1 (nle (a := e) (b := 70) (by omega) (by decide))) (fun _ => ?_)
    refine q_aload_n hJ dL_law_70 (q := 71) rfl rfl (by first | rfl | exact isR_rr _) ?_
    refine q_aload_n hJ dL_law_71 (q := 72) rfl rfl (by first | rfl | exact isR_rr _) ?_
    refine q_aload_n hJ dL_law_72 (q := 73) rfl rfl (by first | rfl | exact isR_rr _) ?_
    refine q_iload_n hJ dL_law_73 (q := 74) rfl rfl ?_
    refine q_callSX hL dL_law_74 (q := 77) rfl (S_cell L xs e hL4 (by omega) I R) imL_cell ln_L_120 rfl rfl rfl (Nat.le_of_ble_eq_true rfl) (by decide) (by decide) rfl rfl (fun rv gv Iv Rv hv => ?_)
    obtain ⟨x, rfl, rfl, rfl, rfl⟩ := hv
    refine q_callS hJ dL_law_77 (q := 80) rfl (S_does A x I R hO hA) imL_does ln_L_124 rfl rfl rfl (Nat.le_of_ble_eq_true rfl) (by decide) (by decide) rfl rfl (fun rv gv Iv Rv hv => ?_)
    obtain ⟨rfl, rfl, A2, hO2, hA2⟩ := hv
    refine q_if_eq hJ (tgt := 104) dL_law_80 (q := 83) rfl (by decide) (fun c2 => absurd c2 (by decide)) (fun _ => ?_)
    refine q_aload_n hJ dL_law_83 (q := 84) rfl rfl (by first | rfl | exact isR_rr _) ?_
    refine q_callS hJ dL_law_84 (q := 87) rfl (S_areRows A2 _ _ hO2 hA2) imL_areRows ln_L_127 rfl rfl rfl (Nat.le_of_ble_eq_true rfl) (by decide) (by decide) rfl rfl (fun rv gv Iv Rv hv => ?_)
    obtain ⟨rfl, rfl, rfl, rfl⟩ := hv
    refine q_if_eq hJ (tgt := 104) dL_law_87 (q := 90) rfl (by decide) (fun c3 => absurd c3 (by decide)) (fun _ => ?_)
    refine q_iload_n hJ dL_law_90 (q := 91) rfl rfl ?_
    refine q_iconst hJ (v := 5) dL_law_91 (q := 92) rfl (by decide) ?_
    refine q_irem hJ dL_law_92 (q := 93) rfl (by decide) ?_
    refine q_iconst hJ (v := 4) dL_law_93 (q := 94) rfl (by decide) ?_
    refine q_icmp_ne hJ (tgt := 106) dL_law_94 (q := 97) rfl (by decide) (fun c4 => ?_) (fun c4 => ?_)
    · refine q_iinc hJ dL_law_106 (q := 109) rfl (show 3 < 4 by decide) rfl (nI_1 e) ?_
      refine q_goto hJ (tgt := 64) dL_law_109 (by decide) ?_
      exact ih (e + 1) A2 _ _ (by omega) hO2 hA2
    · refine q_aload_n hJ dL_law_97 (q := 98) rfl rfl (by first | rfl | exact isR_rr _) ?_
      refine q_callS hJ dL_law_98 (q := 101) rfl (S_areRules A2 _ _ hO2 hA2) imL_areRules ln_L_131 rfl rfl rfl (Nat.le_of_ble_eq_true rfl) (by decide) (by decide) rfl rfl (fun rv gv Iv Rv hv => ?_)
      obtain ⟨rfl, rfl, rfl, rfl⟩ := hv
      refine q_if_ne hJ (tgt := 106) dL_law_101 (q := 104) rfl (by decide) (fun _ => ?_) (fun c5 => absurd c5 (by decide))
      refine q_iinc hJ dL_law_106 (q := 109) rfl (show 3 < 4 by decide) rfl (nI_1 e) ?_
      refine q_goto hJ (tgt := 64) dL_law_109 (by decide) ?_
      exact ih (e + 1) A2 _ _ (by omega) hO2 hA2
set_option maxRecDepth 100000 in
set_option maxHeartbeats 4000000 in
theorem law_start {nm : String} {L : Nat} {xs : Nat → Int32} {J : JT} (hL : OkL nm L xs J) (hL4 : L ≤ 260) (I : MI) (R : MR) : J 0 0 0 [some (.float 0), none, none, none] [] (gp 0) I R := by
  have hJ := hL.ok
  refine q_new hJ (ci := 10) dL_law_0 (q := 3) rfl (by decide) cl_L_15 nw_X10 (by decide) rfl rfl ?_
  rw [gp_N (n := 0) rfl]
  simp only [gp1]
  refine q_dup hJ dL_law_3 (q := 4) rfl rfl ?_
  refine q_callI hJ dL_law_4 (q := 7) rfl (S_objNew _ _ (zI_self _ _)) imX10_init ln_L_109 rfl rfl rfl (Nat.le_of_ble_eq_true rfl) (by decide) (by decide) rfl rfl (fun rv gv Iv Rv hv => ?_)
  obtain ⟨rfl, rfl, _, _, hO⟩ := hv
  generalize Iv = I1 at *
  generalize Rv = R1 at *
  refine q_astore_n hJ dL_law_7 (q := 8) rfl (show (1 : Nat) < 4 by decide) (by first | rfl | exact isR_rr _) ?_
  refine q_bipush hJ (v := 9) dL_law_8 (q := 10) rfl (by decide) ?_
  refine q_newa (t0 := 0) hJ (N := 9) (k := 13) dL_law_10 (q := 12) rfl rfl (by decide) ac_int ⟨by decide, by decide⟩ (by decide) (by decide) rfl rfl ?_
  rw [gp_N (n := 317) rfl]
  simp only [gp1]
  rw [show gp (317 + 1) = g0 from rfl]
  refine q_astore_n hJ dL_law_12 (q := 13) rfl (show (2 : Nat) < 4 by decide) (by first | rfl | exact isR_rr _) ?_
  have hC0 : CYB _ _ A0 (fun _ => A0) 0 A0 false (fun _ => 0) 0 A0 := hO.cyb (I' := zI I1 317) (R' := zR R1 317) (fun a ha => zI_o _ (by omega)) (fun a ha => zR_o _ (by omega))
  have hb0 := CYB.ob hC0
  refine q_aload_n hJ dL_law_13 (q := 14) rfl rfl (by first | rfl | exact isR_rr _) ?_
  refine q_iconst hJ (v := 3) dL_law_14 (q := 15) rfl (by decide) ?_
  refine q_callV hJ dL_law_15 (q := 18) rfl ((O_total 3 (by decide) (by decide) hb0).val (w := 4) rfl) imX10_total ln_L_14 ka_x (by decide) rfl rfl rfl rfl (Nat.le_of_ble_eq_true rfl) (by decide) (by decide) rfl rfl (fun rv gv Iv Rv hv => ?_)
  obtain ⟨rfl, rfl, rfl, rfl⟩ := hv
  refine q_iconst hJ (v := 4) dL_law_18 (q := 19) rfl (by decide) ?_
  refine q_icmp_ne hJ (tgt := 60) dL_law_19 (q := 22) rfl (by decide) (fun c1 => absurd rfl c1) (fun _ => ?_)
  refine q_aload_n hJ dL_law_22 (q := 23) rfl rfl (by first | rfl | exact isR_rr _) ?_
  refine q_iconst hJ (v := 4) dL_law_23 (q := 24) rfl (by decide) ?_
  refine q_callV hJ dL_law_24 (q := 27) rfl ((O_total 4 (by decide) (by decide) hb0).val (w := 0) rfl) imX10_total ln_L_14 ka_x (by decide) rfl rfl rfl rfl (Nat.le_of_ble_eq_true rfl) (by decide) (by decide) rfl rfl (fun rv gv Iv Rv hv => ?_)
  obtain ⟨rfl, rfl, rfl, rfl⟩ := hv
  refine q_if_ne hJ (tgt := 60) dL_law_27 (q := 30) rfl (by decide) (fun c2 => absurd rfl c2) (fun _ => ?_)
  refine q_aload_n hJ dL_law_30 (q := 31) rfl rfl (by first | rfl | exact isR_rr _) ?_
  refine q_callV hJ dL_law_31 (q := 34) rfl (S_undo A0 (fun _ => A0) 0 A0 false (fun _ => 0) 0 A0 _ _ hC0) imX10_undo ln_L_110 ka_x (by decide) rfl rfl rfl rfl (Nat.le_of_ble_eq_true rfl) (by decide) (by decide) rfl rfl (fun rv gv Iv Rv hv => ?_)
  obtain ⟨rfl, rfl, hC1, hh1⟩ := hv
  change CYB Iv Rv A0 (fun _ => A0) 0 A0 false (fun _ => 0) 0 A0 at hC1
  rw [if_pos rfl]
  refine q_sipush hJ (v := (-1006)) dL_law_34 (q := 37) rfl (by decide) ?_
  refine q_icmp_ne hJ (tgt := 60) dL_law_37 (q := 40) rfl (by decide) (fun c3 => absurd rfl c3) (fun _ => ?_)
  refine q_aload_n hJ dL_law_40 (q := 41) rfl rfl (by first | rfl | exact isR_rr _) ?_
  refine q_callV hJ dL_law_41 (q := 44) rfl (S_restore A0 (fun _ => A0) 0 A0 false (fun _ => 0) 0 A0 _ _ hC1) imX10_restore ln_L_114 ka_x (by decide) rfl rfl rfl rfl (Nat.le_of_ble_eq_true rfl) (by decide) (by decide) rfl rfl (fun rv gv Iv Rv hv => ?_)
  obtain ⟨rfl, rfl, hC2, hh2⟩ := hv
  change CYB Iv Rv A0 (fun _ => A0) 0 A0 false (fun _ => 0) 0 A0 at hC2
  rw [if_neg (by decide)]
  refine q_sipush hJ (v := (-1006)) dL_law_44 (q := 47) rfl (by decide) ?_
  refine q_icmp_ne hJ (tgt := 60) dL_law_47 (q := 50) rfl (by decide) (fun c4 => absurd rfl c4) (fun _ => ?_)
  refine q_aload_n hJ dL_law_50 (q := 51) rfl rfl (by first | rfl | exact isR_rr _) ?_
  refine q_callV hJ dL_law_51 (q := 54) rfl (S_perform _ A0 (fun _ => A0) 0 A0 false (fun _ => 0) 0 A0 _ _ hC2 (fun k _ _ => rfl)) imX10_perform ln_L_117 ka_x (by decide) rfl rfl rfl rfl (Nat.le_of_ble_eq_true rfl) (by decide) (by decide) rfl rfl (fun rv gv Iv Rv hv => ?_)
  obtain ⟨rfl, rfl, hC3, hh3⟩ := hv
  rw [prf_0]
  have hb3 : Ob Iv Rv A0 := by
    rcases hC3 with ⟨k, _⟩ | ⟨_, B3, k⟩
    · exact absurd k (prf_no _ _)
    · exact k.ob
  refine q_sipush hJ (v := (-2000)) dL_law_54 (q := 57) rfl (by decide) ?_
  refine q_icmp_eq hJ (tgt := 62) dL_law_57 (q := 60) rfl (by decide) (fun _ => ?_) (fun c5 => absurd rfl c5)
  refine q_iconst hJ (v := 0) dL_law_62 (q := 63) rfl (by decide) ?_
  refine q_istore_n hJ dL_law_63 (q := 64) rfl (show (3 : Nat) < 4 by decide) ?_
  exact law_loop hL hL4 70 0 A0 _ _ rfl hb3 Good.A0
/-- YOUR PART: from the entry, for every script of at most 260 ints, the law comes to its end with true ('hflags': the launch's flags, for a law that throws: no stack traces) -/
theorem whole_start {p : Program} {e : Env} {s : State} {m : MethodId} {below : List Frame} {meth : Method} {c : Code} (l : Launch) (hflags : l.flags = flags0) {b L : Nat} {xs : Nat → Int32} (hL : L ≤ 260) (C0 : lw_At p s m meth c b L xs) : W p l e room_1 s m #[Value.ref b] below meth c s.heap [] 0 0 (lw_Z below #[Value.ref b] s) (entryFrame m ([Value.ref b] : List Value).toArray 4) := by
  obtain ⟨D, kA, hK⟩ := law_Kn C0.2.2.2.2.2.1
  have hL0 : OkL meth.name L xs (wc p l e room_1 s m #[Value.ref b] below meth c s.heap.size b D kA 0 (lw_Z below #[Value.ref b] s) 4) := ⟨p, l, e, s, m, below, meth, c, b, D, kA, rfl, C0, hK, rfl⟩
  have k := law_start hL0 hL (fun _ _ => 0) (fun _ _ => none)
  rw [lg_entry_eq]
  exact k s.heap [] _ rfl (fun j q h => by simp [wl, gp] at h) va_S.rf (LH.entry (n0 := s.heap.size) (sb := b) [.float 0] (fun v hv => by simp at hv; rw [hv]; rfl) (by decide))
set_option maxHeartbeats 4000000 in
theorem lw_walk (l : Launch) (hflags : l.flags = flags0) (b : Addr) (xs : List Int32) : MetFree l x (headSpec (Jvm.Cond.code x code maxLocals ret :: tables_1) room_1) (lw_P b xs) (fun _ _ _ _ _ => True) lw_Q := by
  refine MetFree.of_bodyS (code := code) (maxLocals := maxLocals) (ret := ret) (by decide) ?_ ?_
  · intro args s m h hn
    obtain ⟨meth, c, h1, h2, h3, h4, h5, h6, -, -⟩ := Cond.code_spec hn (atoms_spec (ws := Jvm.Cond.code x code maxLocals ret :: tables_1) h _ List.mem_cons_self)
    exact ⟨meth, c, h1, h2, h3, h4, h5, h6⟩
  · intro p e s m args below meth c s₁ B hml0 hP _
    obtain ⟨rfl, hx, hbd, hgv⟩ := hP
    obtain ⟨scr, harrAt, hlist, hof, hsmall⟩ := hx
    obtain ⟨hcb, hkn, -, -⟩ := State.arrayAt?_spec harrAt
    have hown : s.vm.findClass R_law = some m.cls := findClass_of_methodNamed B.named
    have hts0 : ∀ c ∈ (Jvm.Cond.code x code maxLocals ret :: tables_1), c.before #[Value.ref b] s = true := atoms_spec (ws := Jvm.Cond.code x code maxLocals ret :: tables_1) B.pre
    have hts : ∀ w ∈ lw_tbl, w.before #[Value.ref b] s = true := k2_hts_sels lw_privs (fun w hw => hts0 w (List.mem_cons_of_mem _ hw)) lw_privs_ok
    have hml : c.maxLocals = 4 := B.maxLocals_eq (hts0 _ List.mem_cons_self)
    have X₀ : Stand p l e room_1 s m #[Value.ref b] below meth c s₁ [] 0 0 := Stand.of_body B
    have hh0 : s₁.heap = s.heap := by rw [B.state]; rfl
    have hsz : scr.slots.size = xs.length := by rw [← Array.length_toList, hlist, List.length_map]
    have hval : ∀ j : Nat, j < xs.length → scr.slots[j]? = some (.int (xs.getD j 0)) := fun j hj => by
      rw [← Array.getElem?_toList, hlist]
      simp [hj]
    have hbl : b < s.heap.size := (Array.getElem?_eq_some_iff.mp hcb).1
    have hX : va_X b xs.length (fun j => xs.getD j 0) s s.heap := ⟨scr, hcb, hof, hkn, hsz, hval⟩
    have K : W p l e room_1 s m #[Value.ref b] below meth c s₁.heap [] 0 0 (lw_Z below #[Value.ref b] s) (entryFrame m ([Value.ref b] : List Value).toArray 4) := by
      rw [hh0]
      exact whole_start l hflags hbd ⟨B.exec, B.bytes, B.returns, hml, hown, hts, hX, hbl, B.notSynchronized, hgv⟩
    obtain ⟨t, a1, o, b1, b2, b3⟩ := K s₁ rfl X₀
    exact ⟨t, o, a1, b1, b2, b3⟩
theorem lw_pre_spec {args : Array Value} {s : State} (h : (Jvm.Cond.and given_1 narrow_1).before args s = true) (hr : rest_1_c.before args s = true) : ∃ (b : Addr) (xs : List Int32), lw_P b xs args s := by
  have hs := flat_of_before _ h
  have hq := flat_of_before _ hr
  have hc : (Cond.count 1).before args s = true := hs _ (by decide +kernel)
  have harr : (Cond.arrayOf (.arg 0) .int).before args s = true := hs _ (by decide +kernel)
  have hle : (Cond.le (.length (.arg 0)) (.int 260)).before args s = true := hs _ (by decide +kernel)
  have hlen : (Cond.isInt (.length (.arg 0))).before args s = true := hq _ (by decide +kernel)
  have hall : (Cond.all (.arg 0) (.isInt (.elem (.arg 0) (.index 0)))).before args s = true := hq _ (by decide +kernel)
  obtain ⟨b, xs, hb, hx⟩ := State.ints_of_pre rfl harr hlen hall
  have hsm : xs.length < 2 ^ 31 := hx.choose_spec.2.2.2
  have hev : (Term.length (.arg 0)).eval args s none [] s = some (.int xs.length.toInt32) := hx.length_eval hb
  have hv := Cond.le_ints hev (show (Term.int 260).eval args s none [] s = some (.int 260) from rfl)
  have hd : xs.length.toInt32 ≤ 260 := by
    simpa [Cond.before, Cond.holds, hv] using hle
  have hN : xs.length ≤ 260 := (Int32.ofNat_le_ofNat hsm (by decide)).mp (show Int32.ofNat xs.length ≤ Int32.ofNat 260 from hd)
  exact ⟨b, xs, Cond.one_arg hc (show args[0]? = some (.ref b) from hb), hx, hN, h⟩
theorem lw_comes (l : Launch) (hflags : l.flags = flags0) : Comes l x (Jvm.Cond.code x code maxLocals ret :: tables_1) room_1 (fun tb e args s => Calls_1 tb e args s ∧ rest_1 tb e args s ∧ Pre_1 tb e args s)
    (fun _ _ args s o t => lw_Q args s o t) := by
  intro p e ha hc hk s m args below hf hfit hheap happ hpre
  obtain ⟨b, xs, hP⟩ := lw_pre_spec hpre.2.2 hpre.2.1
  obtain ⟨k, o, h1, h2, h3, hQ⟩ := lw_walk l hflags b xs p e ha hc hk s m args below hf ((Spec.applies_iff_loose hf).mp happ).1 hP trivial
  exact ⟨k, o, h1, h2, h3, hQ⟩
theorem lw_frame {s t : State} {o : Outcome} {args : Array Value} (h : Framed s o t [] 600000 7302250) :
    Framed s o t (fieldLocs frame_1_writes args s ++ arrayLocs frame_1_arrays args s ++ staticLocs frame_1_statics s) 600000 7302250 := h
theorem lw_limb (L : Cond) (hL : ∀ (args : Array Value) (s t : State), L.after args s (.returned (some (.int 1))) t = true) :
    ArmFor flags0 classFile x code maxLocals ret World_1 tables_1 room_1 Calls_1 rest_1 Pre_1
      (fun tb e a s o t => postC L tb e a s o t ∧ Framed s o t (fieldLocs frame_1_writes a s ++ arrayLocs frame_1_arrays a s ++ staticLocs frame_1_statics s) 600000 7302250) := by
  intro l hflags _ _ p e ha hc hk s m args below hf hfit hheap happ hpre
  obtain ⟨k, o, h1, h2, h3, rfl, hF⟩ := lw_comes l hflags p e ha hc hk s m args below hf hfit hheap happ hpre
  exact ⟨k, _, h1, h2, h3, hL args s _, lw_frame hF⟩
theorem i_vc : Claimed_1_1 ∧ Claimed_1_2 := ⟨lw_limb limb_1_1 (fun args s t => by simp [limb_1_1, Cond.after, Cond.holds, Cond.value]), lw_limb limb_1_2 (fun args s t => Cond.after_iff.mpr (by
  first | (rw [show limb_1_2 = Cond.eq .result (.int 1) from rfl, Cond.eq_ints (x := 1) (y := 1) rfl rfl]; simp; done) | (simp [limb_1_2, Cond.value, Term.eval]; done)))⟩

