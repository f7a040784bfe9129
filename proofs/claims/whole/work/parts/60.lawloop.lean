/-! THE LAW'S LOOP -/
theorem CYB.lo {I I' : MI} {R : MR} {A : AS} {hs : Nat → AS} {h : Nat} {sn : AS} {kp : Bool} {tx : Nat → Int32} {tn : Nat} {B : AS} (H : CYB I R A hs h sn kp tx tn B) (k : ∀ a, a < 317 → I' a = I a) : CYB I' R A hs h sn kp tx tn B := by
  obtain ⟨e1, e2, e3, e4, e5, e6, e7, e8, e9, e10, e11, e12, e13⟩ := H
  exact ⟨e1, fun d h1 h8 => by rw [k _ (by omega)]; exact e2 d h1 h8, fun r hr => by rw [k 44 (by omega)]; exact e3 r hr, e4.agr (fun a _ q => k a (by omega)) (Agr.rf _ _ _), e5.agr (fun a _ q => k a (by omega)) (Agr.rf _ _ _), e6.agr (fun a _ q => k a (by omega)) (Agr.rf _ _ _), by rw [k 0 (by omega)]; exact e7, e8.agr (fun a _ q => k a (by omega)) (Agr.rf _ _ _), e9.agr (fun a _ q => k a (by omega)), e10, e11, e12, e13⟩
theorem MOD.hi {I I' : MI} {A : AS} {hs : Nat → AS} {h : Nat} {sn : AS} {kp : Bool} {tx : Nat → Int32} {tn : Nat} (H : MOD I A hs h sn kp tx tn) (k : ∀ a, 317 ≤ a → I' a = I a) : MOD I' A hs h sn kp tx tn := by
  unfold MOD at H ⊢
  rw [k 317 (by decide), k 318 (by decide), k 319 (by decide), k 320 (by decide), k 321 (by decide)]
  exact H
def LawI (I : MI) (R : MR) : Prop := ∃ (A : AS) (hs : Nat → AS) (h : Nat) (sn : AS) (kp : Bool) (tx : Nat → Int32) (tn : Nat) (B : AS), CYB I R A hs h sn kp tx tn B ∧ MOD I A hs h sn kp tx tn
theorem law_one {I1 I2 : MI} {R : MR} {A : AS} {hs : Nat → AS} {h : Nat} {sn : AS} {kp : Bool} {tx : Nat → Int32} {tn : Nat} {B : AS} (hC : CYB I1 R A hs h sn kp tx tn B) (hM : MOD I2 A hs h sn kp tx tn) (hlo : ∀ a, a < 317 → I2 a = I1 a) : LawI I2 R := ⟨A, hs, h, sn, kp, tx, tn, B, hC.lo hlo, hM⟩
theorem law_or {ok : Prop} {I1 I2 : MI} {R : MR} {A A2 : AS} {hs : Nat → AS} {h : Nat} {sn : AS} {kp : Bool} {tx : Nat → Int32} {tn : Nat} {B1 B2 : AS} (hC : (ok ∧ CYB I1 R A2 (pushH hs h A) (pushN h) sn kp tx tn B1) ∨ (¬ ok ∧ CYB I1 R A hs h sn kp tx tn B2)) (hM : (ok ∧ MOD I2 A2 (pushH hs h A) (pushN h) sn kp tx tn) ∨ (¬ ok ∧ MOD I2 A hs h sn kp tx tn)) (hlo : ∀ a, a < 317 → I2 a = I1 a) : LawI I2 R := by
  rcases hC with ⟨k, c⟩ | ⟨k, c⟩ <;> rcases hM with ⟨k2, m⟩ | ⟨k2, m⟩
  · exact law_one c m hlo
  · exact absurd k k2
  · exact absurd k2 k
  · exact law_one c m hlo
theorem or_FR {ok : Prop} {I1 : MI} {R : MR} {A A2 : AS} {hs hs2 : Nat → AS} {h h2 : Nat} {sn : AS} {kp : Bool} {tx : Nat → Int32} {tn : Nat} {B1 B2 : AS} (hC : (ok ∧ CYB I1 R A2 hs2 h2 sn kp tx tn B1) ∨ (¬ ok ∧ CYB I1 R A hs h sn kp tx tn B2)) : FR R := hC.elim (fun z => z.2.1) (fun z => z.2.1)
theorem sub8 {L i : Nat} (hL : L ≤ 4096) (hi : i ≤ 8192) : nI L - 8 < nI i ↔ L < i + 8 := by
  rw [Int32.lt_iff_toInt_lt, Int32.toInt_sub, nI_toInt (by omega), nI_toInt (by omega), show (8 : Int32).toInt = 8 from rfl, Int.bmod_eq_of_le (by omega) (by omega)]
  omega
set_option maxRecDepth 100000 in
set_option maxHeartbeats 4000000 in
theorem law_loop {nm : String} {L : Nat} {xs : Nat → Int32} {J : JT} (hL : OkL nm L xs J) (hL4 : L ≤ 4096) : ∀ (n i : Nat) (I : MI) (R : MR), L ≤ i + n → i ≤ 4096 → LawI I R → J 323 6496 18 [some (.float 0), some (.ref 0), some (.ref 317), some (.int (nI i))] [] g0 I R := by
  have hJ := hL.ok
  have ex : ∀ (i : Nat) (I : MI) (R : MR), L < i + 8 → i ≤ 4096 → J 323 6496 18 [some (.float 0), some (.ref 0), some (.ref 317), some (.int (nI i))] [] g0 I R := by
    intro i I R hx hi
    refine q_iload_n hJ dL_law_18 (q := 19) rfl rfl ?_
    refine q_aload_n hJ dL_law_19 (q := 20) rfl rfl (by first | rfl | exact isR_rr _) ?_
    refine q_llen hL dL_law_20 (q := 21) rfl ?_
    refine q_bipush hJ (v := 8) dL_law_21 (q := 23) rfl (by decide) ?_
    refine q_isub hJ dL_law_23 (q := 24) rfl ?_
    refine q_icmp_gt hJ (tgt := 984) dL_law_24 (q := 27) rfl (by decide) (fun _ => ?_) (fun c5 => absurd ((sub8 hL4 (by omega)).mpr (by omega)) c5)
    refine q_iconst hJ (v := 1) dL_law_984 (q := 985) rfl (by decide) ?_
    exact q_lret hL dL_law_985 (by decide) (by decide)
  intro n
  induction n with
  | zero =>
    intro i I R h1 h2 _
    exact ex i I R (by omega) h2
  | succ n ih =>
    intro i I R h1 h2 hI
    by_cases hx : L < i + 8
    · exact ex i I R hx h2
    · have next : ∀ (I2 : MI) (R2 : MR), LawI I2 R2 → J 323 6496 978 [some (.float 0), some (.ref 0), some (.ref 317), some (.int (nI i))] [] g0 I2 R2 := by
        intro I2 R2 hI2
        refine q_iinc hJ dL_law_978 (q := 981) rfl (show 3 < 4 by decide) rfl (nIl_add i 8) ?_
        refine q_goto hJ (tgt := 18) dL_law_981 (by decide) ?_
        exact ih (i + 8) I2 R2 (by omega) (by omega) hI2
      obtain ⟨A, hs, h, sn, kp, tx, tn, B, hC0, hM0⟩ := id hI
      refine q_iload_n hJ dL_law_18 (q := 19) rfl rfl ?_
      refine q_aload_n hJ dL_law_19 (q := 20) rfl rfl (by first | rfl | exact isR_rr _) ?_
      refine q_llen hL dL_law_20 (q := 21) rfl ?_
      refine q_bipush hJ (v := 8) dL_law_21 (q := 23) rfl (by decide) ?_
      refine q_isub hJ dL_law_23 (q := 24) rfl ?_
      refine q_icmp_gt hJ (tgt := 984) dL_law_24 (q := 27) rfl (by decide) (fun c5 => absurd ((sub8 hL4 (by omega)).mp c5) (by omega)) (fun _ => ?_)
      refine q_aload_n hJ dL_law_27 (q := 28) rfl rfl (by first | rfl | exact isR_rr _) ?_
      refine q_iload_n hJ dL_law_28 (q := 29) rfl rfl ?_
      refine q_lld hL dL_law_29 (q := 30) rfl (j := i) rfl (by omega) hL4 ?_
      refine q_bipush hJ (v := 31) dL_law_30 (q := 32) rfl (by decide) ?_
      refine q_iand hJ dL_law_32 (q := 33) rfl ?_
      by_cases k_0 : (xs i &&& 31) = 0
      · refine q_tswIn hJ (off := 111) (tgt := 144) dL_law_33 (by rw [k_0]; decide) (by rw [k_0]; decide) (by rw [k_0]; decide) (by decide) ?_
        refine q_aload_n hJ dL_law_144 (q := 145) rfl rfl (by first | rfl | exact isR_rr _) ?_
        refine q_aload_n hJ dL_law_145 (q := 146) rfl rfl (by first | rfl | exact isR_rr _) ?_
        refine q_iload_n hJ dL_law_146 (q := 147) rfl rfl ?_
        refine q_iconst hJ (v := 1) dL_law_147 (q := 148) rfl (by decide) ?_
        refine q_iadd hJ dL_law_148 (q := 149) rfl ?_
        refine q_lld hL dL_law_149 (q := 150) rfl (j := i + 1) (nIl_add i 1) (by omega) hL4 ?_
        refine q_aload_n hJ dL_law_150 (q := 151) rfl rfl (by first | rfl | exact isR_rr _) ?_
        refine q_iload_n hJ dL_law_151 (q := 152) rfl rfl ?_
        refine q_iconst hJ (v := 2) dL_law_152 (q := 153) rfl (by decide) ?_
        refine q_iadd hJ dL_law_153 (q := 154) rfl ?_
        refine q_lld hL dL_law_154 (q := 155) rfl (j := i + 2) (nIl_add i 2) (by omega) hL4 ?_
        refine q_aload_n hJ dL_law_155 (q := 156) rfl rfl (by first | rfl | exact isR_rr _) ?_
        refine q_iload_n hJ dL_law_156 (q := 157) rfl rfl ?_
        refine q_iconst hJ (v := 3) dL_law_157 (q := 158) rfl (by decide) ?_
        refine q_iadd hJ dL_law_158 (q := 159) rfl ?_
        refine q_lld hL dL_law_159 (q := 160) rfl (j := i + 3) (nIl_add i 3) (by omega) hL4 ?_
        refine q_aload_n hJ dL_law_160 (q := 161) rfl rfl (by first | rfl | exact isR_rr _) ?_
        refine q_iload_n hJ dL_law_161 (q := 162) rfl rfl ?_
        refine q_iconst hJ (v := 4) dL_law_162 (q := 163) rfl (by decide) ?_
        refine q_iadd hJ dL_law_163 (q := 164) rfl ?_
        refine q_lld hL dL_law_164 (q := 165) rfl (j := i + 4) (nIl_add i 4) (by omega) hL4 ?_
        refine q_aload_n hJ dL_law_165 (q := 166) rfl rfl (by first | rfl | exact isR_rr _) ?_
        refine q_iload_n hJ dL_law_166 (q := 167) rfl rfl ?_
        refine q_iconst hJ (v := 5) dL_law_167 (q := 168) rfl (by decide) ?_
        refine q_iadd hJ dL_law_168 (q := 169) rfl ?_
        refine q_lld hL dL_law_169 (q := 170) rfl (j := i + 5) (nIl_add i 5) (by omega) hL4 ?_
        refine q_aload_n hJ dL_law_170 (q := 171) rfl rfl (by first | rfl | exact isR_rr _) ?_
        refine q_iload_n hJ dL_law_171 (q := 172) rfl rfl ?_
        refine q_bipush hJ (v := 6) dL_law_172 (q := 174) rfl (by decide) ?_
        refine q_iadd hJ dL_law_174 (q := 175) rfl ?_
        refine q_lld hL dL_law_175 (q := 176) rfl (j := i + 6) (nIl_add i 6) (by omega) hL4 ?_
        refine q_aload_n hJ dL_law_176 (q := 177) rfl rfl (by first | rfl | exact isR_rr _) ?_
        refine q_iload_n hJ dL_law_177 (q := 178) rfl rfl ?_
        refine q_bipush hJ (v := 7) dL_law_178 (q := 180) rfl (by decide) ?_
        refine q_iadd hJ dL_law_180 (q := 181) rfl ?_
        refine q_lld hL dL_law_181 (q := 182) rfl (j := i + 7) (nIl_add i 7) (by omega) hL4 ?_
        refine q_callV hJ dL_law_182 (q := 185) rfl (S_add (xs (i + 1)) (xs (i + 2)) (xs (i + 3)) (xs (i + 4)) (xs (i + 5)) (xs (i + 6)) (xs (i + 7)) A hs h sn kp tx tn B I R hC0) imX10_addRule ln_L_13 (by first | exact ka_x | exact ka317) (by decide) rfl rfl rfl rfl (Nat.le_of_ble_eq_true rfl) (by decide) (by decide) rfl rfl (fun rv gv Iv Rv hv => ?_)
        obtain ⟨rfl, rfl, hC, hhi⟩ := hv
        have hM1 := hM0.hi hhi
        have hFR1 : FR Rv := or_FR hC
        generalize Iv = I1 at *
        generalize Rv = R1 at *
        refine q_aload_n hJ dL_law_185 (q := 186) rfl rfl (by first | rfl | exact isR_rr _) ?_
        refine q_aload_n hJ dL_law_186 (q := 187) rfl rfl (by first | rfl | exact isR_rr _) ?_
        refine q_iload_n hJ dL_law_187 (q := 188) rfl rfl ?_
        refine q_iconst hJ (v := 1) dL_law_188 (q := 189) rfl (by decide) ?_
        refine q_iadd hJ dL_law_189 (q := 190) rfl ?_
        refine q_lld hL dL_law_190 (q := 191) rfl (j := i + 1) (nIl_add i 1) (by omega) hL4 ?_
        refine q_aload_n hJ dL_law_191 (q := 192) rfl rfl (by first | rfl | exact isR_rr _) ?_
        refine q_iload_n hJ dL_law_192 (q := 193) rfl rfl ?_
        refine q_iconst hJ (v := 2) dL_law_193 (q := 194) rfl (by decide) ?_
        refine q_iadd hJ dL_law_194 (q := 195) rfl ?_
        refine q_lld hL dL_law_195 (q := 196) rfl (j := i + 2) (nIl_add i 2) (by omega) hL4 ?_
        refine q_aload_n hJ dL_law_196 (q := 197) rfl rfl (by first | rfl | exact isR_rr _) ?_
        refine q_iload_n hJ dL_law_197 (q := 198) rfl rfl ?_
        refine q_iconst hJ (v := 3) dL_law_198 (q := 199) rfl (by decide) ?_
        refine q_iadd hJ dL_law_199 (q := 200) rfl ?_
        refine q_lld hL dL_law_200 (q := 201) rfl (j := i + 3) (nIl_add i 3) (by omega) hL4 ?_
        refine q_aload_n hJ dL_law_201 (q := 202) rfl rfl (by first | rfl | exact isR_rr _) ?_
        refine q_iload_n hJ dL_law_202 (q := 203) rfl rfl ?_
        refine q_iconst hJ (v := 4) dL_law_203 (q := 204) rfl (by decide) ?_
        refine q_iadd hJ dL_law_204 (q := 205) rfl ?_
        refine q_lld hL dL_law_205 (q := 206) rfl (j := i + 4) (nIl_add i 4) (by omega) hL4 ?_
        refine q_aload_n hJ dL_law_206 (q := 207) rfl rfl (by first | rfl | exact isR_rr _) ?_
        refine q_iload_n hJ dL_law_207 (q := 208) rfl rfl ?_
        refine q_iconst hJ (v := 5) dL_law_208 (q := 209) rfl (by decide) ?_
        refine q_iadd hJ dL_law_209 (q := 210) rfl ?_
        refine q_lld hL dL_law_210 (q := 211) rfl (j := i + 5) (nIl_add i 5) (by omega) hL4 ?_
        refine q_aload_n hJ dL_law_211 (q := 212) rfl rfl (by first | rfl | exact isR_rr _) ?_
        refine q_iload_n hJ dL_law_212 (q := 213) rfl rfl ?_
        refine q_bipush hJ (v := 6) dL_law_213 (q := 215) rfl (by decide) ?_
        refine q_iadd hJ dL_law_215 (q := 216) rfl ?_
        refine q_lld hL dL_law_216 (q := 217) rfl (j := i + 6) (nIl_add i 6) (by omega) hL4 ?_
        refine q_aload_n hJ dL_law_217 (q := 218) rfl rfl (by first | rfl | exact isR_rr _) ?_
        refine q_iload_n hJ dL_law_218 (q := 219) rfl rfl ?_
        refine q_bipush hJ (v := 7) dL_law_219 (q := 221) rfl (by decide) ?_
        refine q_iadd hJ dL_law_221 (q := 222) rfl ?_
        refine q_lld hL dL_law_222 (q := 223) rfl (j := i + 7) (nIl_add i 7) (by omega) hL4 ?_
        refine q_callV hJ dL_law_223 (q := 226) rfl (M_add (xs (i + 1)) (xs (i + 2)) (xs (i + 3)) (xs (i + 4)) (xs (i + 5)) (xs (i + 6)) (xs (i + 7)) A hs h sn kp tx tn I1 R1 hFR1 hM1) imX11_addRule ln_L_17 (by first | exact ka_x | exact ka317) (by decide) rfl rfl rfl rfl (Nat.le_of_ble_eq_true rfl) (by decide) (by decide) rfl rfl (fun rv gv Iv Rv hv => ?_)
        obtain ⟨rfl, rfl, rfl, hlo, hM⟩ := hv
        refine q_icmp_eq hJ (tgt := 978) dL_law_226 (q := 229) rfl (by decide) (fun _ => ?_) (fun ce => absurd rfl ce)
        exact next _ _ (law_or hC hM hlo)
      by_cases k_1 : (xs i &&& 31) = 1
      · refine q_tswIn hJ (off := 198) (tgt := 231) dL_law_33 (by rw [k_1]; decide) (by rw [k_1]; decide) (by rw [k_1]; decide) (by decide) ?_
        refine q_aload_n hJ dL_law_231 (q := 232) rfl rfl (by first | rfl | exact isR_rr _) ?_
        refine q_aload_n hJ dL_law_232 (q := 233) rfl rfl (by first | rfl | exact isR_rr _) ?_
        refine q_iload_n hJ dL_law_233 (q := 234) rfl rfl ?_
        refine q_iconst hJ (v := 1) dL_law_234 (q := 235) rfl (by decide) ?_
        refine q_iadd hJ dL_law_235 (q := 236) rfl ?_
        refine q_lld hL dL_law_236 (q := 237) rfl (j := i + 1) (nIl_add i 1) (by omega) hL4 ?_
        refine q_aload_n hJ dL_law_237 (q := 238) rfl rfl (by first | rfl | exact isR_rr _) ?_
        refine q_iload_n hJ dL_law_238 (q := 239) rfl rfl ?_
        refine q_iconst hJ (v := 2) dL_law_239 (q := 240) rfl (by decide) ?_
        refine q_iadd hJ dL_law_240 (q := 241) rfl ?_
        refine q_lld hL dL_law_241 (q := 242) rfl (j := i + 2) (nIl_add i 2) (by omega) hL4 ?_
        refine q_aload_n hJ dL_law_242 (q := 243) rfl rfl (by first | rfl | exact isR_rr _) ?_
        refine q_iload_n hJ dL_law_243 (q := 244) rfl rfl ?_
        refine q_iconst hJ (v := 3) dL_law_244 (q := 245) rfl (by decide) ?_
        refine q_iadd hJ dL_law_245 (q := 246) rfl ?_
        refine q_lld hL dL_law_246 (q := 247) rfl (j := i + 3) (nIl_add i 3) (by omega) hL4 ?_
        refine q_aload_n hJ dL_law_247 (q := 248) rfl rfl (by first | rfl | exact isR_rr _) ?_
        refine q_iload_n hJ dL_law_248 (q := 249) rfl rfl ?_
        refine q_iconst hJ (v := 4) dL_law_249 (q := 250) rfl (by decide) ?_
        refine q_iadd hJ dL_law_250 (q := 251) rfl ?_
        refine q_lld hL dL_law_251 (q := 252) rfl (j := i + 4) (nIl_add i 4) (by omega) hL4 ?_
        refine q_callV hJ dL_law_252 (q := 255) rfl (S_cond (xs (i + 1)) (xs (i + 2)) (xs (i + 3)) (xs (i + 4)) A hs h sn kp tx tn B I R hC0) imX10_setCondition ln_L_18 (by first | exact ka_x | exact ka317) (by decide) rfl rfl rfl rfl (Nat.le_of_ble_eq_true rfl) (by decide) (by decide) rfl rfl (fun rv gv Iv Rv hv => ?_)
        obtain ⟨rfl, rfl, hC, hhi⟩ := hv
        have hM1 := hM0.hi hhi
        have hFR1 : FR Rv := or_FR hC
        generalize Iv = I1 at *
        generalize Rv = R1 at *
        refine q_aload_n hJ dL_law_255 (q := 256) rfl rfl (by first | rfl | exact isR_rr _) ?_
        refine q_aload_n hJ dL_law_256 (q := 257) rfl rfl (by first | rfl | exact isR_rr _) ?_
        refine q_iload_n hJ dL_law_257 (q := 258) rfl rfl ?_
        refine q_iconst hJ (v := 1) dL_law_258 (q := 259) rfl (by decide) ?_
        refine q_iadd hJ dL_law_259 (q := 260) rfl ?_
        refine q_lld hL dL_law_260 (q := 261) rfl (j := i + 1) (nIl_add i 1) (by omega) hL4 ?_
        refine q_aload_n hJ dL_law_261 (q := 262) rfl rfl (by first | rfl | exact isR_rr _) ?_
        refine q_iload_n hJ dL_law_262 (q := 263) rfl rfl ?_
        refine q_iconst hJ (v := 2) dL_law_263 (q := 264) rfl (by decide) ?_
        refine q_iadd hJ dL_law_264 (q := 265) rfl ?_
        refine q_lld hL dL_law_265 (q := 266) rfl (j := i + 2) (nIl_add i 2) (by omega) hL4 ?_
        refine q_aload_n hJ dL_law_266 (q := 267) rfl rfl (by first | rfl | exact isR_rr _) ?_
        refine q_iload_n hJ dL_law_267 (q := 268) rfl rfl ?_
        refine q_iconst hJ (v := 3) dL_law_268 (q := 269) rfl (by decide) ?_
        refine q_iadd hJ dL_law_269 (q := 270) rfl ?_
        refine q_lld hL dL_law_270 (q := 271) rfl (j := i + 3) (nIl_add i 3) (by omega) hL4 ?_
        refine q_aload_n hJ dL_law_271 (q := 272) rfl rfl (by first | rfl | exact isR_rr _) ?_
        refine q_iload_n hJ dL_law_272 (q := 273) rfl rfl ?_
        refine q_iconst hJ (v := 4) dL_law_273 (q := 274) rfl (by decide) ?_
        refine q_iadd hJ dL_law_274 (q := 275) rfl ?_
        refine q_lld hL dL_law_275 (q := 276) rfl (j := i + 4) (nIl_add i 4) (by omega) hL4 ?_
        refine q_callV hJ dL_law_276 (q := 279) rfl (M_cond (xs (i + 1)) (xs (i + 2)) (xs (i + 3)) (xs (i + 4)) A hs h sn kp tx tn I1 R1 hFR1 hM1) imX11_setCondition ln_L_22 (by first | exact ka_x | exact ka317) (by decide) rfl rfl rfl rfl (Nat.le_of_ble_eq_true rfl) (by decide) (by decide) rfl rfl (fun rv gv Iv Rv hv => ?_)
        obtain ⟨rfl, rfl, rfl, hlo, hM⟩ := hv
        refine q_icmp_eq hJ (tgt := 978) dL_law_279 (q := 282) rfl (by decide) (fun _ => ?_) (fun ce => absurd rfl ce)
        exact next _ _ (law_or hC hM hlo)
      by_cases k_2 : (xs i &&& 31) = 2
      · refine q_tswIn hJ (off := 251) (tgt := 284) dL_law_33 (by rw [k_2]; decide) (by rw [k_2]; decide) (by rw [k_2]; decide) (by decide) ?_
        by_cases hb : xs (i + 2) = 0
        · refine q_aload_n hJ dL_law_284 (q := 285) rfl rfl (by first | rfl | exact isR_rr _) ?_
          refine q_aload_n hJ dL_law_285 (q := 286) rfl rfl (by first | rfl | exact isR_rr _) ?_
          refine q_iload_n hJ dL_law_286 (q := 287) rfl rfl ?_
          refine q_iconst hJ (v := 1) dL_law_287 (q := 288) rfl (by decide) ?_
          refine q_iadd hJ dL_law_288 (q := 289) rfl ?_
          refine q_lld hL dL_law_289 (q := 290) rfl (j := i + 1) (nIl_add i 1) (by omega) hL4 ?_
          refine q_aload_n hJ dL_law_290 (q := 291) rfl rfl (by first | rfl | exact isR_rr _) ?_
          refine q_iload_n hJ dL_law_291 (q := 292) rfl rfl ?_
          refine q_iconst hJ (v := 2) dL_law_292 (q := 293) rfl (by decide) ?_
          refine q_iadd hJ dL_law_293 (q := 294) rfl ?_
          refine q_lld hL dL_law_294 (q := 295) rfl (j := i + 2) (nIl_add i 2) (by omega) hL4 ?_
          refine q_if_eq hJ (tgt := 302) dL_law_295 (q := 298) rfl (by decide) (fun _ => ?_) (fun cb => absurd hb cb)
          refine q_iconst hJ (v := 0) dL_law_302 (q := 303) rfl (by decide) ?_
          refine q_callV hJ dL_law_303 (q := 306) rfl (S_put (xs (i + 1)) 0 (by decide) A hs h sn kp tx tn B I R hC0) imX10_put ln_L_23 (by first | exact ka_x | exact ka317) (by decide) rfl rfl rfl rfl (Nat.le_of_ble_eq_true rfl) (by decide) (by decide) rfl rfl (fun rv gv Iv Rv hv => ?_)
          obtain ⟨rfl, rfl, hC, hhi⟩ := hv
          have hM1 := hM0.hi hhi
          have hFR1 : FR Rv := or_FR hC
          generalize Iv = I1 at *
          generalize Rv = R1 at *
          refine q_aload_n hJ dL_law_306 (q := 307) rfl rfl (by first | rfl | exact isR_rr _) ?_
          refine q_aload_n hJ dL_law_307 (q := 308) rfl rfl (by first | rfl | exact isR_rr _) ?_
          refine q_iload_n hJ dL_law_308 (q := 309) rfl rfl ?_
          refine q_iconst hJ (v := 1) dL_law_309 (q := 310) rfl (by decide) ?_
          refine q_iadd hJ dL_law_310 (q := 311) rfl ?_
          refine q_lld hL dL_law_311 (q := 312) rfl (j := i + 1) (nIl_add i 1) (by omega) hL4 ?_
          refine q_aload_n hJ dL_law_312 (q := 313) rfl rfl (by first | rfl | exact isR_rr _) ?_
          refine q_iload_n hJ dL_law_313 (q := 314) rfl rfl ?_
          refine q_iconst hJ (v := 2) dL_law_314 (q := 315) rfl (by decide) ?_
          refine q_iadd hJ dL_law_315 (q := 316) rfl ?_
          refine q_lld hL dL_law_316 (q := 317) rfl (j := i + 2) (nIl_add i 2) (by omega) hL4 ?_
          refine q_if_eq hJ (tgt := 324) dL_law_317 (q := 320) rfl (by decide) (fun _ => ?_) (fun cb => absurd hb cb)
          refine q_iconst hJ (v := 0) dL_law_324 (q := 325) rfl (by decide) ?_
          refine q_callV hJ dL_law_325 (q := 328) rfl (M_put (xs (i + 1)) 0 (by decide) A hs h sn kp tx tn I1 R1 hFR1 hM1) imX11_put ln_L_27 (by first | exact ka_x | exact ka317) (by decide) rfl rfl rfl rfl (Nat.le_of_ble_eq_true rfl) (by decide) (by decide) rfl rfl (fun rv gv Iv Rv hv => ?_)
          obtain ⟨rfl, rfl, rfl, hlo, hM⟩ := hv
          refine q_icmp_eq hJ (tgt := 978) dL_law_328 (q := 331) rfl (by decide) (fun _ => ?_) (fun ce => absurd rfl ce)
          exact next _ _ (law_or hC hM hlo)
        · refine q_aload_n hJ dL_law_284 (q := 285) rfl rfl (by first | rfl | exact isR_rr _) ?_
          refine q_aload_n hJ dL_law_285 (q := 286) rfl rfl (by first | rfl | exact isR_rr _) ?_
          refine q_iload_n hJ dL_law_286 (q := 287) rfl rfl ?_
          refine q_iconst hJ (v := 1) dL_law_287 (q := 288) rfl (by decide) ?_
          refine q_iadd hJ dL_law_288 (q := 289) rfl ?_
          refine q_lld hL dL_law_289 (q := 290) rfl (j := i + 1) (nIl_add i 1) (by omega) hL4 ?_
          refine q_aload_n hJ dL_law_290 (q := 291) rfl rfl (by first | rfl | exact isR_rr _) ?_
          refine q_iload_n hJ dL_law_291 (q := 292) rfl rfl ?_
          refine q_iconst hJ (v := 2) dL_law_292 (q := 293) rfl (by decide) ?_
          refine q_iadd hJ dL_law_293 (q := 294) rfl ?_
          refine q_lld hL dL_law_294 (q := 295) rfl (j := i + 2) (nIl_add i 2) (by omega) hL4 ?_
          refine q_if_eq hJ (tgt := 302) dL_law_295 (q := 298) rfl (by decide) (fun cb => absurd cb hb) (fun _ => ?_)
          refine q_iconst hJ (v := 1) dL_law_298 (q := 299) rfl (by decide) ?_
          refine q_goto hJ (tgt := 303) dL_law_299 (by decide) ?_
          refine q_callV hJ dL_law_303 (q := 306) rfl (S_put (xs (i + 1)) 1 (by decide) A hs h sn kp tx tn B I R hC0) imX10_put ln_L_23 (by first | exact ka_x | exact ka317) (by decide) rfl rfl rfl rfl (Nat.le_of_ble_eq_true rfl) (by decide) (by decide) rfl rfl (fun rv gv Iv Rv hv => ?_)
          obtain ⟨rfl, rfl, hC, hhi⟩ := hv
          have hM1 := hM0.hi hhi
          have hFR1 : FR Rv := or_FR hC
          generalize Iv = I1 at *
          generalize Rv = R1 at *
          refine q_aload_n hJ dL_law_306 (q := 307) rfl rfl (by first | rfl | exact isR_rr _) ?_
          refine q_aload_n hJ dL_law_307 (q := 308) rfl rfl (by first | rfl | exact isR_rr _) ?_
          refine q_iload_n hJ dL_law_308 (q := 309) rfl rfl ?_
          refine q_iconst hJ (v := 1) dL_law_309 (q := 310) rfl (by decide) ?_
          refine q_iadd hJ dL_law_310 (q := 311) rfl ?_
          refine q_lld hL dL_law_311 (q := 312) rfl (j := i + 1) (nIl_add i 1) (by omega) hL4 ?_
          refine q_aload_n hJ dL_law_312 (q := 313) rfl rfl (by first | rfl | exact isR_rr _) ?_
          refine q_iload_n hJ dL_law_313 (q := 314) rfl rfl ?_
          refine q_iconst hJ (v := 2) dL_law_314 (q := 315) rfl (by decide) ?_
          refine q_iadd hJ dL_law_315 (q := 316) rfl ?_
          refine q_lld hL dL_law_316 (q := 317) rfl (j := i + 2) (nIl_add i 2) (by omega) hL4 ?_
          refine q_if_eq hJ (tgt := 324) dL_law_317 (q := 320) rfl (by decide) (fun cb => absurd cb hb) (fun _ => ?_)
          refine q_iconst hJ (v := 1) dL_law_320 (q := 321) rfl (by decide) ?_
          refine q_goto hJ (tgt := 325) dL_law_321 (by decide) ?_
          refine q_callV hJ dL_law_325 (q := 328) rfl (M_put (xs (i + 1)) 1 (by decide) A hs h sn kp tx tn I1 R1 hFR1 hM1) imX11_put ln_L_27 (by first | exact ka_x | exact ka317) (by decide) rfl rfl rfl rfl (Nat.le_of_ble_eq_true rfl) (by decide) (by decide) rfl rfl (fun rv gv Iv Rv hv => ?_)
          obtain ⟨rfl, rfl, rfl, hlo, hM⟩ := hv
          refine q_icmp_eq hJ (tgt := 978) dL_law_328 (q := 331) rfl (by decide) (fun _ => ?_) (fun ce => absurd rfl ce)
          exact next _ _ (law_or hC hM hlo)
      by_cases k_3 : (xs i &&& 31) = 3
      · refine q_tswIn hJ (off := 300) (tgt := 333) dL_law_33 (by rw [k_3]; decide) (by rw [k_3]; decide) (by rw [k_3]; decide) (by decide) ?_
        refine q_aload_n hJ dL_law_333 (q := 334) rfl rfl (by first | rfl | exact isR_rr _) ?_
        refine q_aload_n hJ dL_law_334 (q := 335) rfl rfl (by first | rfl | exact isR_rr _) ?_
        refine q_iload_n hJ dL_law_335 (q := 336) rfl rfl ?_
        refine q_iconst hJ (v := 1) dL_law_336 (q := 337) rfl (by decide) ?_
        refine q_iadd hJ dL_law_337 (q := 338) rfl ?_
        refine q_lld hL dL_law_338 (q := 339) rfl (j := i + 1) (nIl_add i 1) (by omega) hL4 ?_
        refine q_callV hJ dL_law_339 (q := 342) rfl (S_remove (xs (i + 1)) A hs h sn kp tx tn B I R hC0) imX10_removeRule ln_L_28 (by first | exact ka_x | exact ka317) (by decide) rfl rfl rfl rfl (Nat.le_of_ble_eq_true rfl) (by decide) (by decide) rfl rfl (fun rv gv Iv Rv hv => ?_)
        obtain ⟨rfl, rfl, hC, hhi⟩ := hv
        have hM1 := hM0.hi hhi
        have hFR1 : FR Rv := or_FR hC
        generalize Iv = I1 at *
        generalize Rv = R1 at *
        refine q_aload_n hJ dL_law_342 (q := 343) rfl rfl (by first | rfl | exact isR_rr _) ?_
        refine q_aload_n hJ dL_law_343 (q := 344) rfl rfl (by first | rfl | exact isR_rr _) ?_
        refine q_iload_n hJ dL_law_344 (q := 345) rfl rfl ?_
        refine q_iconst hJ (v := 1) dL_law_345 (q := 346) rfl (by decide) ?_
        refine q_iadd hJ dL_law_346 (q := 347) rfl ?_
        refine q_lld hL dL_law_347 (q := 348) rfl (j := i + 1) (nIl_add i 1) (by omega) hL4 ?_
        refine q_callV hJ dL_law_348 (q := 351) rfl (M_remove (xs (i + 1)) A hs h sn kp tx tn I1 R1 hFR1 hM1) imX11_removeRule ln_L_32 (by first | exact ka_x | exact ka317) (by decide) rfl rfl rfl rfl (Nat.le_of_ble_eq_true rfl) (by decide) (by decide) rfl rfl (fun rv gv Iv Rv hv => ?_)
        obtain ⟨rfl, rfl, rfl, hlo, hM⟩ := hv
        refine q_icmp_eq hJ (tgt := 978) dL_law_351 (q := 354) rfl (by decide) (fun _ => ?_) (fun ce => absurd rfl ce)
        exact next _ _ (law_or hC hM hlo)
      by_cases k_4 : (xs i &&& 31) = 4
      · refine q_tswIn hJ (off := 323) (tgt := 356) dL_law_33 (by rw [k_4]; decide) (by rw [k_4]; decide) (by rw [k_4]; decide) (by decide) ?_
        refine q_aload_n hJ dL_law_356 (q := 357) rfl rfl (by first | rfl | exact isR_rr _) ?_
        refine q_aload_n hJ dL_law_357 (q := 358) rfl rfl (by first | rfl | exact isR_rr _) ?_
        refine q_iload_n hJ dL_law_358 (q := 359) rfl rfl ?_
        refine q_iconst hJ (v := 1) dL_law_359 (q := 360) rfl (by decide) ?_
        refine q_iadd hJ dL_law_360 (q := 361) rfl ?_
        refine q_lld hL dL_law_361 (q := 362) rfl (j := i + 1) (nIl_add i 1) (by omega) hL4 ?_
        refine q_aload_n hJ dL_law_362 (q := 363) rfl rfl (by first | rfl | exact isR_rr _) ?_
        refine q_iload_n hJ dL_law_363 (q := 364) rfl rfl ?_
        refine q_iconst hJ (v := 2) dL_law_364 (q := 365) rfl (by decide) ?_
        refine q_iadd hJ dL_law_365 (q := 366) rfl ?_
        refine q_lld hL dL_law_366 (q := 367) rfl (j := i + 2) (nIl_add i 2) (by omega) hL4 ?_
        refine q_callV hJ dL_law_367 (q := 370) rfl (S_set (xs (i + 1)) (xs (i + 2)) A hs h sn kp tx tn B I R hC0) imX10_set ln_L_33 (by first | exact ka_x | exact ka317) (by decide) rfl rfl rfl rfl (Nat.le_of_ble_eq_true rfl) (by decide) (by decide) rfl rfl (fun rv gv Iv Rv hv => ?_)
        obtain ⟨rfl, rfl, hC, hhi⟩ := hv
        have hM1 := hM0.hi hhi
        have hFR1 : FR Rv := or_FR hC
        generalize Iv = I1 at *
        generalize Rv = R1 at *
        refine q_aload_n hJ dL_law_370 (q := 371) rfl rfl (by first | rfl | exact isR_rr _) ?_
        refine q_aload_n hJ dL_law_371 (q := 372) rfl rfl (by first | rfl | exact isR_rr _) ?_
        refine q_iload_n hJ dL_law_372 (q := 373) rfl rfl ?_
        refine q_iconst hJ (v := 1) dL_law_373 (q := 374) rfl (by decide) ?_
        refine q_iadd hJ dL_law_374 (q := 375) rfl ?_
        refine q_lld hL dL_law_375 (q := 376) rfl (j := i + 1) (nIl_add i 1) (by omega) hL4 ?_
        refine q_aload_n hJ dL_law_376 (q := 377) rfl rfl (by first | rfl | exact isR_rr _) ?_
        refine q_iload_n hJ dL_law_377 (q := 378) rfl rfl ?_
        refine q_iconst hJ (v := 2) dL_law_378 (q := 379) rfl (by decide) ?_
        refine q_iadd hJ dL_law_379 (q := 380) rfl ?_
        refine q_lld hL dL_law_380 (q := 381) rfl (j := i + 2) (nIl_add i 2) (by omega) hL4 ?_
        refine q_callV hJ dL_law_381 (q := 384) rfl (M_set (xs (i + 1)) (xs (i + 2)) A hs h sn kp tx tn I1 R1 hFR1 hM1) imX11_set ln_L_37 (by first | exact ka_x | exact ka317) (by decide) rfl rfl rfl rfl (Nat.le_of_ble_eq_true rfl) (by decide) (by decide) rfl rfl (fun rv gv Iv Rv hv => ?_)
        obtain ⟨rfl, rfl, rfl, hlo, hM⟩ := hv
        refine q_icmp_eq hJ (tgt := 978) dL_law_384 (q := 387) rfl (by decide) (fun _ => ?_) (fun ce => absurd rfl ce)
        exact next _ _ (law_or hC hM hlo)
      by_cases k_5 : (xs i &&& 31) = 5
      · refine q_tswIn hJ (off := 356) (tgt := 389) dL_law_33 (by rw [k_5]; decide) (by rw [k_5]; decide) (by rw [k_5]; decide) (by decide) ?_
        refine q_aload_n hJ dL_law_389 (q := 390) rfl rfl (by first | rfl | exact isR_rr _) ?_
        refine q_aload_n hJ dL_law_390 (q := 391) rfl rfl (by first | rfl | exact isR_rr _) ?_
        refine q_iload_n hJ dL_law_391 (q := 392) rfl rfl ?_
        refine q_iconst hJ (v := 1) dL_law_392 (q := 393) rfl (by decide) ?_
        refine q_iadd hJ dL_law_393 (q := 394) rfl ?_
        refine q_lld hL dL_law_394 (q := 395) rfl (j := i + 1) (nIl_add i 1) (by omega) hL4 ?_
        refine q_aload_n hJ dL_law_395 (q := 396) rfl rfl (by first | rfl | exact isR_rr _) ?_
        refine q_iload_n hJ dL_law_396 (q := 397) rfl rfl ?_
        refine q_iconst hJ (v := 2) dL_law_397 (q := 398) rfl (by decide) ?_
        refine q_iadd hJ dL_law_398 (q := 399) rfl ?_
        refine q_lld hL dL_law_399 (q := 400) rfl (j := i + 2) (nIl_add i 2) (by omega) hL4 ?_
        refine q_aload_n hJ dL_law_400 (q := 401) rfl rfl (by first | rfl | exact isR_rr _) ?_
        refine q_iload_n hJ dL_law_401 (q := 402) rfl rfl ?_
        refine q_iconst hJ (v := 3) dL_law_402 (q := 403) rfl (by decide) ?_
        refine q_iadd hJ dL_law_403 (q := 404) rfl ?_
        refine q_lld hL dL_law_404 (q := 405) rfl (j := i + 3) (nIl_add i 3) (by omega) hL4 ?_
        refine q_aload_n hJ dL_law_405 (q := 406) rfl rfl (by first | rfl | exact isR_rr _) ?_
        refine q_iload_n hJ dL_law_406 (q := 407) rfl rfl ?_
        refine q_iconst hJ (v := 4) dL_law_407 (q := 408) rfl (by decide) ?_
        refine q_iadd hJ dL_law_408 (q := 409) rfl ?_
        refine q_lld hL dL_law_409 (q := 410) rfl (j := i + 4) (nIl_add i 4) (by omega) hL4 ?_
        refine q_callV hJ dL_law_410 (q := 413) rfl (S_insert (xs (i + 1)) (xs (i + 2)) (xs (i + 3)) (xs (i + 4)) A hs h sn kp tx tn B I R hC0) imX10_insert ln_L_38 (by first | exact ka_x | exact ka317) (by decide) rfl rfl rfl rfl (Nat.le_of_ble_eq_true rfl) (by decide) (by decide) rfl rfl (fun rv gv Iv Rv hv => ?_)
        obtain ⟨rfl, rfl, hC, hhi⟩ := hv
        have hM1 := hM0.hi hhi
        have hFR1 : FR Rv := or_FR hC
        generalize Iv = I1 at *
        generalize Rv = R1 at *
        refine q_aload_n hJ dL_law_413 (q := 414) rfl rfl (by first | rfl | exact isR_rr _) ?_
        refine q_aload_n hJ dL_law_414 (q := 415) rfl rfl (by first | rfl | exact isR_rr _) ?_
        refine q_iload_n hJ dL_law_415 (q := 416) rfl rfl ?_
        refine q_iconst hJ (v := 1) dL_law_416 (q := 417) rfl (by decide) ?_
        refine q_iadd hJ dL_law_417 (q := 418) rfl ?_
        refine q_lld hL dL_law_418 (q := 419) rfl (j := i + 1) (nIl_add i 1) (by omega) hL4 ?_
        refine q_aload_n hJ dL_law_419 (q := 420) rfl rfl (by first | rfl | exact isR_rr _) ?_
        refine q_iload_n hJ dL_law_420 (q := 421) rfl rfl ?_
        refine q_iconst hJ (v := 2) dL_law_421 (q := 422) rfl (by decide) ?_
        refine q_iadd hJ dL_law_422 (q := 423) rfl ?_
        refine q_lld hL dL_law_423 (q := 424) rfl (j := i + 2) (nIl_add i 2) (by omega) hL4 ?_
        refine q_aload_n hJ dL_law_424 (q := 425) rfl rfl (by first | rfl | exact isR_rr _) ?_
        refine q_iload_n hJ dL_law_425 (q := 426) rfl rfl ?_
        refine q_iconst hJ (v := 3) dL_law_426 (q := 427) rfl (by decide) ?_
        refine q_iadd hJ dL_law_427 (q := 428) rfl ?_
        refine q_lld hL dL_law_428 (q := 429) rfl (j := i + 3) (nIl_add i 3) (by omega) hL4 ?_
        refine q_aload_n hJ dL_law_429 (q := 430) rfl rfl (by first | rfl | exact isR_rr _) ?_
        refine q_iload_n hJ dL_law_430 (q := 431) rfl rfl ?_
        refine q_iconst hJ (v := 4) dL_law_431 (q := 432) rfl (by decide) ?_
        refine q_iadd hJ dL_law_432 (q := 433) rfl ?_
        refine q_lld hL dL_law_433 (q := 434) rfl (j := i + 4) (nIl_add i 4) (by omega) hL4 ?_
        refine q_callV hJ dL_law_434 (q := 437) rfl (M_insert (xs (i + 1)) (xs (i + 2)) (xs (i + 3)) (xs (i + 4)) A hs h sn kp tx tn I1 R1 hFR1 hM1) imX11_insert ln_L_41 (by first | exact ka_x | exact ka317) (by decide) rfl rfl rfl rfl (Nat.le_of_ble_eq_true rfl) (by decide) (by decide) rfl rfl (fun rv gv Iv Rv hv => ?_)
        obtain ⟨rfl, rfl, rfl, hlo, hM⟩ := hv
        refine q_icmp_eq hJ (tgt := 978) dL_law_437 (q := 440) rfl (by decide) (fun _ => ?_) (fun ce => absurd rfl ce)
        exact next _ _ (law_or hC hM hlo)
      by_cases k_6 : (xs i &&& 31) = 6
      · refine q_tswIn hJ (off := 409) (tgt := 442) dL_law_33 (by rw [k_6]; decide) (by rw [k_6]; decide) (by rw [k_6]; decide) (by decide) ?_
        refine q_aload_n hJ dL_law_442 (q := 443) rfl rfl (by first | rfl | exact isR_rr _) ?_
        refine q_aload_n hJ dL_law_443 (q := 444) rfl rfl (by first | rfl | exact isR_rr _) ?_
        refine q_iload_n hJ dL_law_444 (q := 445) rfl rfl ?_
        refine q_iconst hJ (v := 1) dL_law_445 (q := 446) rfl (by decide) ?_
        refine q_iadd hJ dL_law_446 (q := 447) rfl ?_
        refine q_lld hL dL_law_447 (q := 448) rfl (j := i + 1) (nIl_add i 1) (by omega) hL4 ?_
        refine q_aload_n hJ dL_law_448 (q := 449) rfl rfl (by first | rfl | exact isR_rr _) ?_
        refine q_iload_n hJ dL_law_449 (q := 450) rfl rfl ?_
        refine q_iconst hJ (v := 2) dL_law_450 (q := 451) rfl (by decide) ?_
        refine q_iadd hJ dL_law_451 (q := 452) rfl ?_
        refine q_lld hL dL_law_452 (q := 453) rfl (j := i + 2) (nIl_add i 2) (by omega) hL4 ?_
        refine q_aload_n hJ dL_law_453 (q := 454) rfl rfl (by first | rfl | exact isR_rr _) ?_
        refine q_iload_n hJ dL_law_454 (q := 455) rfl rfl ?_
        refine q_iconst hJ (v := 3) dL_law_455 (q := 456) rfl (by decide) ?_
        refine q_iadd hJ dL_law_456 (q := 457) rfl ?_
        refine q_lld hL dL_law_457 (q := 458) rfl (j := i + 3) (nIl_add i 3) (by omega) hL4 ?_
        refine q_callV hJ dL_law_458 (q := 461) rfl (S_update (xs (i + 1)) (xs (i + 2)) (xs (i + 3)) A hs h sn kp tx tn B I R hC0) imX10_update ln_L_42 (by first | exact ka_x | exact ka317) (by decide) rfl rfl rfl rfl (Nat.le_of_ble_eq_true rfl) (by decide) (by decide) rfl rfl (fun rv gv Iv Rv hv => ?_)
        obtain ⟨rfl, rfl, hC, hhi⟩ := hv
        have hM1 := hM0.hi hhi
        have hFR1 : FR Rv := or_FR hC
        generalize Iv = I1 at *
        generalize Rv = R1 at *
        refine q_aload_n hJ dL_law_461 (q := 462) rfl rfl (by first | rfl | exact isR_rr _) ?_
        refine q_aload_n hJ dL_law_462 (q := 463) rfl rfl (by first | rfl | exact isR_rr _) ?_
        refine q_iload_n hJ dL_law_463 (q := 464) rfl rfl ?_
        refine q_iconst hJ (v := 1) dL_law_464 (q := 465) rfl (by decide) ?_
        refine q_iadd hJ dL_law_465 (q := 466) rfl ?_
        refine q_lld hL dL_law_466 (q := 467) rfl (j := i + 1) (nIl_add i 1) (by omega) hL4 ?_
        refine q_aload_n hJ dL_law_467 (q := 468) rfl rfl (by first | rfl | exact isR_rr _) ?_
        refine q_iload_n hJ dL_law_468 (q := 469) rfl rfl ?_
        refine q_iconst hJ (v := 2) dL_law_469 (q := 470) rfl (by decide) ?_
        refine q_iadd hJ dL_law_470 (q := 471) rfl ?_
        refine q_lld hL dL_law_471 (q := 472) rfl (j := i + 2) (nIl_add i 2) (by omega) hL4 ?_
        refine q_aload_n hJ dL_law_472 (q := 473) rfl rfl (by first | rfl | exact isR_rr _) ?_
        refine q_iload_n hJ dL_law_473 (q := 474) rfl rfl ?_
        refine q_iconst hJ (v := 3) dL_law_474 (q := 475) rfl (by decide) ?_
        refine q_iadd hJ dL_law_475 (q := 476) rfl ?_
        refine q_lld hL dL_law_476 (q := 477) rfl (j := i + 3) (nIl_add i 3) (by omega) hL4 ?_
        refine q_callV hJ dL_law_477 (q := 480) rfl (M_update (xs (i + 1)) (xs (i + 2)) (xs (i + 3)) A hs h sn kp tx tn I1 R1 hFR1 hM1) imX11_update ln_L_46 (by first | exact ka_x | exact ka317) (by decide) rfl rfl rfl rfl (Nat.le_of_ble_eq_true rfl) (by decide) (by decide) rfl rfl (fun rv gv Iv Rv hv => ?_)
        obtain ⟨rfl, rfl, rfl, hlo, hM⟩ := hv
        refine q_icmp_eq hJ (tgt := 978) dL_law_480 (q := 483) rfl (by decide) (fun _ => ?_) (fun ce => absurd rfl ce)
        exact next _ _ (law_or hC hM hlo)
      by_cases k_7 : (xs i &&& 31) = 7
      · refine q_tswIn hJ (off := 452) (tgt := 485) dL_law_33 (by rw [k_7]; decide) (by rw [k_7]; decide) (by rw [k_7]; decide) (by decide) ?_
        refine q_aload_n hJ dL_law_485 (q := 486) rfl rfl (by first | rfl | exact isR_rr _) ?_
        refine q_aload_n hJ dL_law_486 (q := 487) rfl rfl (by first | rfl | exact isR_rr _) ?_
        refine q_iload_n hJ dL_law_487 (q := 488) rfl rfl ?_
        refine q_iconst hJ (v := 1) dL_law_488 (q := 489) rfl (by decide) ?_
        refine q_iadd hJ dL_law_489 (q := 490) rfl ?_
        refine q_lld hL dL_law_490 (q := 491) rfl (j := i + 1) (nIl_add i 1) (by omega) hL4 ?_
        refine q_callV hJ dL_law_491 (q := 494) rfl (S_delete (xs (i + 1)) A hs h sn kp tx tn B I R hC0) imX10_delete ln_L_47 (by first | exact ka_x | exact ka317) (by decide) rfl rfl rfl rfl (Nat.le_of_ble_eq_true rfl) (by decide) (by decide) rfl rfl (fun rv gv Iv Rv hv => ?_)
        obtain ⟨rfl, rfl, hC, hhi⟩ := hv
        have hM1 := hM0.hi hhi
        have hFR1 : FR Rv := or_FR hC
        generalize Iv = I1 at *
        generalize Rv = R1 at *
        refine q_aload_n hJ dL_law_494 (q := 495) rfl rfl (by first | rfl | exact isR_rr _) ?_
        refine q_aload_n hJ dL_law_495 (q := 496) rfl rfl (by first | rfl | exact isR_rr _) ?_
        refine q_iload_n hJ dL_law_496 (q := 497) rfl rfl ?_
        refine q_iconst hJ (v := 1) dL_law_497 (q := 498) rfl (by decide) ?_
        refine q_iadd hJ dL_law_498 (q := 499) rfl ?_
        refine q_lld hL dL_law_499 (q := 500) rfl (j := i + 1) (nIl_add i 1) (by omega) hL4 ?_
        refine q_callV hJ dL_law_500 (q := 503) rfl (M_delete (xs (i + 1)) A hs h sn kp tx tn I1 R1 hFR1 hM1) imX11_delete ln_L_50 (by first | exact ka_x | exact ka317) (by decide) rfl rfl rfl rfl (Nat.le_of_ble_eq_true rfl) (by decide) (by decide) rfl rfl (fun rv gv Iv Rv hv => ?_)
        obtain ⟨rfl, rfl, rfl, hlo, hM⟩ := hv
        refine q_icmp_eq hJ (tgt := 978) dL_law_503 (q := 506) rfl (by decide) (fun _ => ?_) (fun ce => absurd rfl ce)
        exact next _ _ (law_or hC hM hlo)
      by_cases k_8 : (xs i &&& 31) = 8
      · refine q_tswIn hJ (off := 475) (tgt := 508) dL_law_33 (by rw [k_8]; decide) (by rw [k_8]; decide) (by rw [k_8]; decide) (by decide) ?_
        refine q_aload_n hJ dL_law_508 (q := 509) rfl rfl (by first | rfl | exact isR_rr _) ?_
        refine q_aload_n hJ dL_law_509 (q := 510) rfl rfl (by first | rfl | exact isR_rr _) ?_
        refine q_iload_n hJ dL_law_510 (q := 511) rfl rfl ?_
        refine q_iconst hJ (v := 1) dL_law_511 (q := 512) rfl (by decide) ?_
        refine q_iadd hJ dL_law_512 (q := 513) rfl ?_
        refine q_lld hL dL_law_513 (q := 514) rfl (j := i + 1) (nIl_add i 1) (by omega) hL4 ?_
        refine q_i2c hJ dL_law_514 (q := 515) rfl rfl ?_
        refine q_callV hJ dL_law_515 (q := 518) rfl (S_type (((xs (i + 1)).toUInt32 % 65536).toInt32) (chr_ok _) A hs h sn kp tx tn B I R hC0) imX10_type ln_L_51 (by first | exact ka_x | exact ka317) (by decide) rfl rfl rfl rfl (Nat.le_of_ble_eq_true rfl) (by decide) (by decide) rfl rfl (fun rv gv Iv Rv hv => ?_)
        obtain ⟨rfl, rfl, hC, hhi⟩ := hv
        have hM1 := hM0.hi hhi
        have hFR1 : FR Rv := hC.1
        generalize Iv = I1 at *
        generalize Rv = R1 at *
        refine q_aload_n hJ dL_law_518 (q := 519) rfl rfl (by first | rfl | exact isR_rr _) ?_
        refine q_aload_n hJ dL_law_519 (q := 520) rfl rfl (by first | rfl | exact isR_rr _) ?_
        refine q_iload_n hJ dL_law_520 (q := 521) rfl rfl ?_
        refine q_iconst hJ (v := 1) dL_law_521 (q := 522) rfl (by decide) ?_
        refine q_iadd hJ dL_law_522 (q := 523) rfl ?_
        refine q_lld hL dL_law_523 (q := 524) rfl (j := i + 1) (nIl_add i 1) (by omega) hL4 ?_
        refine q_i2c hJ dL_law_524 (q := 525) rfl rfl ?_
        refine q_callV hJ dL_law_525 (q := 528) rfl (M_type (((xs (i + 1)).toUInt32 % 65536).toInt32) A hs h sn kp tx tn I1 R1 hFR1 hM1) imX11_type ln_L_55 (by first | exact ka_x | exact ka317) (by decide) rfl rfl rfl rfl (Nat.le_of_ble_eq_true rfl) (by decide) (by decide) rfl rfl (fun rv gv Iv Rv hv => ?_)
        obtain ⟨rfl, rfl, rfl, hlo, hM⟩ := hv
        refine q_icmp_eq hJ (tgt := 978) dL_law_528 (q := 531) rfl (by decide) (fun _ => ?_) (fun ce => absurd rfl ce)
        exact next _ _ (law_one hC hM hlo)
      by_cases k_9 : (xs i &&& 31) = 9
      · refine q_tswIn hJ (off := 500) (tgt := 533) dL_law_33 (by rw [k_9]; decide) (by rw [k_9]; decide) (by rw [k_9]; decide) (by decide) ?_
        refine q_aload_n hJ dL_law_533 (q := 534) rfl rfl (by first | rfl | exact isR_rr _) ?_
        refine q_callV hJ dL_law_534 (q := 537) rfl (S_clear  A hs h sn kp tx tn B I R hC0) imX10_clearText ln_L_56 (by first | exact ka_x | exact ka317) (by decide) rfl rfl rfl rfl (Nat.le_of_ble_eq_true rfl) (by decide) (by decide) rfl rfl (fun rv gv Iv Rv hv => ?_)
        obtain ⟨rfl, rfl, hC, hhi⟩ := hv
        have hM1 := hM0.hi hhi
        have hFR1 : FR Rv := hC.1
        generalize Iv = I1 at *
        generalize Rv = R1 at *
        refine q_aload_n hJ dL_law_537 (q := 538) rfl rfl (by first | rfl | exact isR_rr _) ?_
        refine q_callV hJ dL_law_538 (q := 541) rfl (M_clear  A hs h sn kp tx tn I1 R1 hFR1 hM1) imX11_clearText ln_L_60 (by first | exact ka_x | exact ka317) (by decide) rfl rfl rfl rfl (Nat.le_of_ble_eq_true rfl) (by decide) (by decide) rfl rfl (fun rv gv Iv Rv hv => ?_)
        obtain ⟨rfl, rfl, rfl, hlo, hM⟩ := hv
        refine q_icmp_eq hJ (tgt := 978) dL_law_541 (q := 544) rfl (by decide) (fun _ => ?_) (fun ce => absurd rfl ce)
        exact next _ _ (law_one hC hM hlo)
      by_cases k_10 : (xs i &&& 31) = 10
      · refine q_tswIn hJ (off := 513) (tgt := 546) dL_law_33 (by rw [k_10]; decide) (by rw [k_10]; decide) (by rw [k_10]; decide) (by decide) ?_
        refine q_aload_n hJ dL_law_546 (q := 547) rfl rfl (by first | rfl | exact isR_rr _) ?_
        refine q_callV hJ dL_law_547 (q := 550) rfl (S_perform (fun k => I 315 k) A hs h sn kp tx tn B I R hC0 (fun k _ _ => rfl)) imX10_perform ln_L_61 (by first | exact ka_x | exact ka317) (by decide) rfl rfl rfl rfl (Nat.le_of_ble_eq_true rfl) (by decide) (by decide) rfl rfl (fun rv gv Iv Rv hv => ?_)
        obtain ⟨rfl, rfl, hC, hhi⟩ := hv
        have hM1 := hM0.hi hhi
        have hFR1 : FR Rv := hC.elim (fun z => z.2.1) (fun z => z.2.elim fun _ y => y.1)
        generalize Iv = I1 at *
        generalize Rv = R1 at *
        refine q_aload_n hJ dL_law_550 (q := 551) rfl rfl (by first | rfl | exact isR_rr _) ?_
        refine q_callV hJ dL_law_551 (q := 554) rfl (M_perform (fun k => I 315 k) A hs h sn kp tx tn I1 R1 hFR1 hM1) imX11_perform ln_L_64 (by first | exact ka_x | exact ka317) (by decide) rfl rfl rfl rfl (Nat.le_of_ble_eq_true rfl) (by decide) (by decide) rfl rfl (fun rv gv Iv Rv hv => ?_)
        obtain ⟨rfl, rfl, rfl, hlo, hM⟩ := hv
        refine q_icmp_eq hJ (tgt := 978) dL_law_554 (q := 557) rfl (by decide) (fun _ => ?_) (fun ce => absurd rfl ce)
        rcases hC with ⟨k1, c1⟩ | ⟨k1, B1, c1⟩
        · exact next _ _ (law_or (B2 := A) (Or.inl ⟨k1, c1⟩) hM hlo)
        · exact next _ _ (law_or (B1 := A) (Or.inr ⟨k1, c1⟩) hM hlo)
      by_cases k_11 : (xs i &&& 31) = 11
      · refine q_tswIn hJ (off := 526) (tgt := 559) dL_law_33 (by rw [k_11]; decide) (by rw [k_11]; decide) (by rw [k_11]; decide) (by decide) ?_
        refine q_aload_n hJ dL_law_559 (q := 560) rfl rfl (by first | rfl | exact isR_rr _) ?_
        refine q_callV hJ dL_law_560 (q := 563) rfl (S_undo  A hs h sn kp tx tn B I R hC0) imX10_undo ln_L_65 (by first | exact ka_x | exact ka317) (by decide) rfl rfl rfl rfl (Nat.le_of_ble_eq_true rfl) (by decide) (by decide) rfl rfl (fun rv gv Iv Rv hv => ?_)
        obtain ⟨rfl, rfl, hC, hhi⟩ := hv
        have hM1 := hM0.hi hhi
        have hFR1 : FR Rv := hC.1
        generalize Iv = I1 at *
        generalize Rv = R1 at *
        refine q_aload_n hJ dL_law_563 (q := 564) rfl rfl (by first | rfl | exact isR_rr _) ?_
        refine q_callV hJ dL_law_564 (q := 567) rfl (M_undo  A hs h sn kp tx tn I1 R1 hFR1 hM1) imX11_undo ln_L_68 (by first | exact ka_x | exact ka317) (by decide) rfl rfl rfl rfl (Nat.le_of_ble_eq_true rfl) (by decide) (by decide) rfl rfl (fun rv gv Iv Rv hv => ?_)
        obtain ⟨rfl, rfl, rfl, hlo, hM⟩ := hv
        refine q_icmp_eq hJ (tgt := 978) dL_law_567 (q := 570) rfl (by decide) (fun _ => ?_) (fun ce => absurd rfl ce)
        exact next _ _ (law_one hC hM hlo)
      by_cases k_12 : (xs i &&& 31) = 12
      · refine q_tswIn hJ (off := 539) (tgt := 572) dL_law_33 (by rw [k_12]; decide) (by rw [k_12]; decide) (by rw [k_12]; decide) (by decide) ?_
        refine q_aload_n hJ dL_law_572 (q := 573) rfl rfl (by first | rfl | exact isR_rr _) ?_
        refine q_callV hJ dL_law_573 (q := 576) rfl (S_keep  A hs h sn kp tx tn B I R hC0) imX10_keep ln_L_69 (by first | exact ka_x | exact ka317) (by decide) rfl rfl rfl rfl (Nat.le_of_ble_eq_true rfl) (by decide) (by decide) rfl rfl (fun rv gv Iv Rv hv => ?_)
        obtain ⟨rfl, rfl, hC, hhi⟩ := hv
        have hM1 := hM0.hi hhi
        have hFR1 : FR Rv := hC.1
        generalize Iv = I1 at *
        generalize Rv = R1 at *
        refine q_aload_n hJ dL_law_576 (q := 577) rfl rfl (by first | rfl | exact isR_rr _) ?_
        refine q_callV hJ dL_law_577 (q := 580) rfl (M_keep  A hs h sn kp tx tn I1 R1 hFR1 hM1) imX11_keep ln_L_72 (by first | exact ka_x | exact ka317) (by decide) rfl rfl rfl rfl (Nat.le_of_ble_eq_true rfl) (by decide) (by decide) rfl rfl (fun rv gv Iv Rv hv => ?_)
        obtain ⟨rfl, rfl, rfl, hlo, hM⟩ := hv
        refine q_icmp_eq hJ (tgt := 978) dL_law_580 (q := 583) rfl (by decide) (fun _ => ?_) (fun ce => absurd rfl ce)
        exact next _ _ (law_one hC hM hlo)
      by_cases k_13 : (xs i &&& 31) = 13
      · refine q_tswIn hJ (off := 552) (tgt := 585) dL_law_33 (by rw [k_13]; decide) (by rw [k_13]; decide) (by rw [k_13]; decide) (by decide) ?_
        refine q_aload_n hJ dL_law_585 (q := 586) rfl rfl (by first | rfl | exact isR_rr _) ?_
        refine q_callV hJ dL_law_586 (q := 589) rfl (S_restore  A hs h sn kp tx tn B I R hC0) imX10_restore ln_L_73 (by first | exact ka_x | exact ka317) (by decide) rfl rfl rfl rfl (Nat.le_of_ble_eq_true rfl) (by decide) (by decide) rfl rfl (fun rv gv Iv Rv hv => ?_)
        obtain ⟨rfl, rfl, hC, hhi⟩ := hv
        have hM1 := hM0.hi hhi
        have hFR1 : FR Rv := hC.1
        generalize Iv = I1 at *
        generalize Rv = R1 at *
        refine q_aload_n hJ dL_law_589 (q := 590) rfl rfl (by first | rfl | exact isR_rr _) ?_
        refine q_callV hJ dL_law_590 (q := 593) rfl (M_restore  A hs h sn kp tx tn I1 R1 hFR1 hM1) imX11_restore ln_L_76 (by first | exact ka_x | exact ka317) (by decide) rfl rfl rfl rfl (Nat.le_of_ble_eq_true rfl) (by decide) (by decide) rfl rfl (fun rv gv Iv Rv hv => ?_)
        obtain ⟨rfl, rfl, rfl, hlo, hM⟩ := hv
        refine q_icmp_eq hJ (tgt := 978) dL_law_593 (q := 596) rfl (by decide) (fun _ => ?_) (fun ce => absurd rfl ce)
        exact next _ _ (law_one hC hM hlo)
      by_cases k_14 : (xs i &&& 31) = 14
      · refine q_tswIn hJ (off := 565) (tgt := 598) dL_law_33 (by rw [k_14]; decide) (by rw [k_14]; decide) (by rw [k_14]; decide) (by decide) ?_
        refine q_aload_n hJ dL_law_598 (q := 599) rfl rfl (by first | rfl | exact isR_rr _) ?_
        refine q_aload_n hJ dL_law_599 (q := 600) rfl rfl (by first | rfl | exact isR_rr _) ?_
        refine q_iload_n hJ dL_law_600 (q := 601) rfl rfl ?_
        refine q_iconst hJ (v := 1) dL_law_601 (q := 602) rfl (by decide) ?_
        refine q_iadd hJ dL_law_602 (q := 603) rfl ?_
        refine q_lld hL dL_law_603 (q := 604) rfl (j := i + 1) (nIl_add i 1) (by omega) hL4 ?_
        refine q_aload_n hJ dL_law_604 (q := 605) rfl rfl (by first | rfl | exact isR_rr _) ?_
        refine q_iload_n hJ dL_law_605 (q := 606) rfl rfl ?_
        refine q_iconst hJ (v := 2) dL_law_606 (q := 607) rfl (by decide) ?_
        refine q_iadd hJ dL_law_607 (q := 608) rfl ?_
        refine q_lld hL dL_law_608 (q := 609) rfl (j := i + 2) (nIl_add i 2) (by omega) hL4 ?_
        refine q_callV hJ dL_law_609 (q := 612) rfl (S_field (xs (i + 1)) (xs (i + 2)) A hs h sn kp tx tn B I R hC0) imX10_field ln_L_77 (by first | exact ka_x | exact ka317) (by decide) rfl rfl rfl rfl (Nat.le_of_ble_eq_true rfl) (by decide) (by decide) rfl rfl (fun rv gv Iv Rv hv => ?_)
        obtain ⟨rfl, rfl, rfl, rfl⟩ := hv
        refine q_aload_n hJ dL_law_612 (q := 613) rfl rfl (by first | rfl | exact isR_rr _) ?_
        refine q_aload_n hJ dL_law_613 (q := 614) rfl rfl (by first | rfl | exact isR_rr _) ?_
        refine q_iload_n hJ dL_law_614 (q := 615) rfl rfl ?_
        refine q_iconst hJ (v := 1) dL_law_615 (q := 616) rfl (by decide) ?_
        refine q_iadd hJ dL_law_616 (q := 617) rfl ?_
        refine q_lld hL dL_law_617 (q := 618) rfl (j := i + 1) (nIl_add i 1) (by omega) hL4 ?_
        refine q_aload_n hJ dL_law_618 (q := 619) rfl rfl (by first | rfl | exact isR_rr _) ?_
        refine q_iload_n hJ dL_law_619 (q := 620) rfl rfl ?_
        refine q_iconst hJ (v := 2) dL_law_620 (q := 621) rfl (by decide) ?_
        refine q_iadd hJ dL_law_621 (q := 622) rfl ?_
        refine q_lld hL dL_law_622 (q := 623) rfl (j := i + 2) (nIl_add i 2) (by omega) hL4 ?_
        refine q_callV hJ dL_law_623 (q := 626) rfl (M_field (xs (i + 1)) (xs (i + 2)) A hs h sn kp tx tn I R hC0.1 hM0) imX11_field ln_L_80 (by first | exact ka_x | exact ka317) (by decide) rfl rfl rfl rfl (Nat.le_of_ble_eq_true rfl) (by decide) (by decide) rfl rfl (fun rv gv Iv Rv hv => ?_)
        obtain ⟨rfl, rfl, rfl, rfl⟩ := hv
        refine q_icmp_eq hJ (tgt := 978) dL_law_626 (q := 629) rfl (by decide) (fun _ => ?_) (fun ce => absurd rfl ce)
        exact next _ _ hI
      by_cases k_15 : (xs i &&& 31) = 15
      · refine q_tswIn hJ (off := 598) (tgt := 631) dL_law_33 (by rw [k_15]; decide) (by rw [k_15]; decide) (by rw [k_15]; decide) (by decide) ?_
        refine q_aload_n hJ dL_law_631 (q := 632) rfl rfl (by first | rfl | exact isR_rr _) ?_
        refine q_aload_n hJ dL_law_632 (q := 633) rfl rfl (by first | rfl | exact isR_rr _) ?_
        refine q_iload_n hJ dL_law_633 (q := 634) rfl rfl ?_
        refine q_iconst hJ (v := 1) dL_law_634 (q := 635) rfl (by decide) ?_
        refine q_iadd hJ dL_law_635 (q := 636) rfl ?_
        refine q_lld hL dL_law_636 (q := 637) rfl (j := i + 1) (nIl_add i 1) (by omega) hL4 ?_
        refine q_callV hJ dL_law_637 (q := 640) rfl (S_keyAt (xs (i + 1)) A hs h sn kp tx tn B I R hC0) imX10_keyAt ln_L_81 (by first | exact ka_x | exact ka317) (by decide) rfl rfl rfl rfl (Nat.le_of_ble_eq_true rfl) (by decide) (by decide) rfl rfl (fun rv gv Iv Rv hv => ?_)
        obtain ⟨rfl, rfl, rfl, rfl⟩ := hv
        refine q_aload_n hJ dL_law_640 (q := 641) rfl rfl (by first | rfl | exact isR_rr _) ?_
        refine q_aload_n hJ dL_law_641 (q := 642) rfl rfl (by first | rfl | exact isR_rr _) ?_
        refine q_iload_n hJ dL_law_642 (q := 643) rfl rfl ?_
        refine q_iconst hJ (v := 1) dL_law_643 (q := 644) rfl (by decide) ?_
        refine q_iadd hJ dL_law_644 (q := 645) rfl ?_
        refine q_lld hL dL_law_645 (q := 646) rfl (j := i + 1) (nIl_add i 1) (by omega) hL4 ?_
        refine q_callV hJ dL_law_646 (q := 649) rfl (M_keyAt (xs (i + 1)) A hs h sn kp tx tn I R hC0.1 hM0) imX11_keyAt ln_L_84 (by first | exact ka_x | exact ka317) (by decide) rfl rfl rfl rfl (Nat.le_of_ble_eq_true rfl) (by decide) (by decide) rfl rfl (fun rv gv Iv Rv hv => ?_)
        obtain ⟨rfl, rfl, rfl, rfl⟩ := hv
        refine q_icmp_eq hJ (tgt := 978) dL_law_649 (q := 652) rfl (by decide) (fun _ => ?_) (fun ce => absurd rfl ce)
        exact next _ _ hI
      by_cases k_16 : (xs i &&& 31) = 16
      · refine q_tswIn hJ (off := 621) (tgt := 654) dL_law_33 (by rw [k_16]; decide) (by rw [k_16]; decide) (by rw [k_16]; decide) (by decide) ?_
        refine q_aload_n hJ dL_law_654 (q := 655) rfl rfl (by first | rfl | exact isR_rr _) ?_
        refine q_aload_n hJ dL_law_655 (q := 656) rfl rfl (by first | rfl | exact isR_rr _) ?_
        refine q_iload_n hJ dL_law_656 (q := 657) rfl rfl ?_
        refine q_iconst hJ (v := 1) dL_law_657 (q := 658) rfl (by decide) ?_
        refine q_iadd hJ dL_law_658 (q := 659) rfl ?_
        refine q_lld hL dL_law_659 (q := 660) rfl (j := i + 1) (nIl_add i 1) (by omega) hL4 ?_
        refine q_aload_n hJ dL_law_660 (q := 661) rfl rfl (by first | rfl | exact isR_rr _) ?_
        refine q_iload_n hJ dL_law_661 (q := 662) rfl rfl ?_
        refine q_iconst hJ (v := 2) dL_law_662 (q := 663) rfl (by decide) ?_
        refine q_iadd hJ dL_law_663 (q := 664) rfl ?_
        refine q_lld hL dL_law_664 (q := 665) rfl (j := i + 2) (nIl_add i 2) (by omega) hL4 ?_
        refine q_callV hJ dL_law_665 (q := 668) rfl (S_rule (xs (i + 1)) (xs (i + 2)) A hs h sn kp tx tn B I R hC0) imX10_rule ln_L_85 (by first | exact ka_x | exact ka317) (by decide) rfl rfl rfl rfl (Nat.le_of_ble_eq_true rfl) (by decide) (by decide) rfl rfl (fun rv gv Iv Rv hv => ?_)
        obtain ⟨rfl, rfl, rfl, rfl⟩ := hv
        refine q_aload_n hJ dL_law_668 (q := 669) rfl rfl (by first | rfl | exact isR_rr _) ?_
        refine q_aload_n hJ dL_law_669 (q := 670) rfl rfl (by first | rfl | exact isR_rr _) ?_
        refine q_iload_n hJ dL_law_670 (q := 671) rfl rfl ?_
        refine q_iconst hJ (v := 1) dL_law_671 (q := 672) rfl (by decide) ?_
        refine q_iadd hJ dL_law_672 (q := 673) rfl ?_
        refine q_lld hL dL_law_673 (q := 674) rfl (j := i + 1) (nIl_add i 1) (by omega) hL4 ?_
        refine q_aload_n hJ dL_law_674 (q := 675) rfl rfl (by first | rfl | exact isR_rr _) ?_
        refine q_iload_n hJ dL_law_675 (q := 676) rfl rfl ?_
        refine q_iconst hJ (v := 2) dL_law_676 (q := 677) rfl (by decide) ?_
        refine q_iadd hJ dL_law_677 (q := 678) rfl ?_
        refine q_lld hL dL_law_678 (q := 679) rfl (j := i + 2) (nIl_add i 2) (by omega) hL4 ?_
        refine q_callV hJ dL_law_679 (q := 682) rfl (M_rule (xs (i + 1)) (xs (i + 2)) A hs h sn kp tx tn I R hC0.1 hM0) imX11_rule ln_L_88 (by first | exact ka_x | exact ka317) (by decide) rfl rfl rfl rfl (Nat.le_of_ble_eq_true rfl) (by decide) (by decide) rfl rfl (fun rv gv Iv Rv hv => ?_)
        obtain ⟨rfl, rfl, rfl, rfl⟩ := hv
        refine q_icmp_eq hJ (tgt := 978) dL_law_682 (q := 685) rfl (by decide) (fun _ => ?_) (fun ce => absurd rfl ce)
        exact next _ _ hI
      by_cases k_17 : (xs i &&& 31) = 17
      · refine q_tswIn hJ (off := 654) (tgt := 687) dL_law_33 (by rw [k_17]; decide) (by rw [k_17]; decide) (by rw [k_17]; decide) (by decide) ?_
        refine q_aload_n hJ dL_law_687 (q := 688) rfl rfl (by first | rfl | exact isR_rr _) ?_
        refine q_aload_n hJ dL_law_688 (q := 689) rfl rfl (by first | rfl | exact isR_rr _) ?_
        refine q_iload_n hJ dL_law_689 (q := 690) rfl rfl ?_
        refine q_iconst hJ (v := 1) dL_law_690 (q := 691) rfl (by decide) ?_
        refine q_iadd hJ dL_law_691 (q := 692) rfl ?_
        refine q_lld hL dL_law_692 (q := 693) rfl (j := i + 1) (nIl_add i 1) (by omega) hL4 ?_
        refine q_aload_n hJ dL_law_693 (q := 694) rfl rfl (by first | rfl | exact isR_rr _) ?_
        refine q_iload_n hJ dL_law_694 (q := 695) rfl rfl ?_
        refine q_iconst hJ (v := 2) dL_law_695 (q := 696) rfl (by decide) ?_
        refine q_iadd hJ dL_law_696 (q := 697) rfl ?_
        refine q_lld hL dL_law_697 (q := 698) rfl (j := i + 2) (nIl_add i 2) (by omega) hL4 ?_
        refine q_aload_n hJ dL_law_698 (q := 699) rfl rfl (by first | rfl | exact isR_rr _) ?_
        refine q_iload_n hJ dL_law_699 (q := 700) rfl rfl ?_
        refine q_iconst hJ (v := 3) dL_law_700 (q := 701) rfl (by decide) ?_
        refine q_iadd hJ dL_law_701 (q := 702) rfl ?_
        refine q_lld hL dL_law_702 (q := 703) rfl (j := i + 3) (nIl_add i 3) (by omega) hL4 ?_
        refine q_callV hJ dL_law_703 (q := 706) rfl (S_order (xs (i + 1)) (xs (i + 2)) (xs (i + 3)) A hs h sn kp tx tn B I R hC0) imX10_order ln_L_89 (by first | exact ka_x | exact ka317) (by decide) rfl rfl rfl rfl (Nat.le_of_ble_eq_true rfl) (by decide) (by decide) rfl rfl (fun rv gv Iv Rv hv => ?_)
        obtain ⟨rfl, rfl, rfl, rfl⟩ := hv
        refine q_aload_n hJ dL_law_706 (q := 707) rfl rfl (by first | rfl | exact isR_rr _) ?_
        refine q_aload_n hJ dL_law_707 (q := 708) rfl rfl (by first | rfl | exact isR_rr _) ?_
        refine q_iload_n hJ dL_law_708 (q := 709) rfl rfl ?_
        refine q_iconst hJ (v := 1) dL_law_709 (q := 710) rfl (by decide) ?_
        refine q_iadd hJ dL_law_710 (q := 711) rfl ?_
        refine q_lld hL dL_law_711 (q := 712) rfl (j := i + 1) (nIl_add i 1) (by omega) hL4 ?_
        refine q_aload_n hJ dL_law_712 (q := 713) rfl rfl (by first | rfl | exact isR_rr _) ?_
        refine q_iload_n hJ dL_law_713 (q := 714) rfl rfl ?_
        refine q_iconst hJ (v := 2) dL_law_714 (q := 715) rfl (by decide) ?_
        refine q_iadd hJ dL_law_715 (q := 716) rfl ?_
        refine q_lld hL dL_law_716 (q := 717) rfl (j := i + 2) (nIl_add i 2) (by omega) hL4 ?_
        refine q_aload_n hJ dL_law_717 (q := 718) rfl rfl (by first | rfl | exact isR_rr _) ?_
        refine q_iload_n hJ dL_law_718 (q := 719) rfl rfl ?_
        refine q_iconst hJ (v := 3) dL_law_719 (q := 720) rfl (by decide) ?_
        refine q_iadd hJ dL_law_720 (q := 721) rfl ?_
        refine q_lld hL dL_law_721 (q := 722) rfl (j := i + 3) (nIl_add i 3) (by omega) hL4 ?_
        refine q_callV hJ dL_law_722 (q := 725) rfl (M_order (xs (i + 1)) (xs (i + 2)) (xs (i + 3)) A hs h sn kp tx tn I R hC0.1 hM0) imX11_order ln_L_92 (by first | exact ka_x | exact ka317) (by decide) rfl rfl rfl rfl (Nat.le_of_ble_eq_true rfl) (by decide) (by decide) rfl rfl (fun rv gv Iv Rv hv => ?_)
        obtain ⟨rfl, rfl, rfl, rfl⟩ := hv
        refine q_icmp_eq hJ (tgt := 978) dL_law_725 (q := 728) rfl (by decide) (fun _ => ?_) (fun ce => absurd rfl ce)
        exact next _ _ hI
      by_cases k_18 : (xs i &&& 31) = 18
      · refine q_tswIn hJ (off := 697) (tgt := 730) dL_law_33 (by rw [k_18]; decide) (by rw [k_18]; decide) (by rw [k_18]; decide) (by decide) ?_
        refine q_aload_n hJ dL_law_730 (q := 731) rfl rfl (by first | rfl | exact isR_rr _) ?_
        refine q_aload_n hJ dL_law_731 (q := 732) rfl rfl (by first | rfl | exact isR_rr _) ?_
        refine q_iload_n hJ dL_law_732 (q := 733) rfl rfl ?_
        refine q_iconst hJ (v := 1) dL_law_733 (q := 734) rfl (by decide) ?_
        refine q_iadd hJ dL_law_734 (q := 735) rfl ?_
        refine q_lld hL dL_law_735 (q := 736) rfl (j := i + 1) (nIl_add i 1) (by omega) hL4 ?_
        refine q_aload_n hJ dL_law_736 (q := 737) rfl rfl (by first | rfl | exact isR_rr _) ?_
        refine q_iload_n hJ dL_law_737 (q := 738) rfl rfl ?_
        refine q_iconst hJ (v := 2) dL_law_738 (q := 739) rfl (by decide) ?_
        refine q_iadd hJ dL_law_739 (q := 740) rfl ?_
        refine q_lld hL dL_law_740 (q := 741) rfl (j := i + 2) (nIl_add i 2) (by omega) hL4 ?_
        refine q_callV hJ dL_law_741 (q := 744) rfl (S_firing (xs (i + 1)) (xs (i + 2)) A hs h sn kp tx tn B I R hC0) imX10_firing ln_L_93 (by first | exact ka_x | exact ka317) (by decide) rfl rfl rfl rfl (Nat.le_of_ble_eq_true rfl) (by decide) (by decide) rfl rfl (fun rv gv Iv Rv hv => ?_)
        obtain ⟨rfl, rfl, rfl, rfl⟩ := hv
        refine q_aload_n hJ dL_law_744 (q := 745) rfl rfl (by first | rfl | exact isR_rr _) ?_
        refine q_aload_n hJ dL_law_745 (q := 746) rfl rfl (by first | rfl | exact isR_rr _) ?_
        refine q_iload_n hJ dL_law_746 (q := 747) rfl rfl ?_
        refine q_iconst hJ (v := 1) dL_law_747 (q := 748) rfl (by decide) ?_
        refine q_iadd hJ dL_law_748 (q := 749) rfl ?_
        refine q_lld hL dL_law_749 (q := 750) rfl (j := i + 1) (nIl_add i 1) (by omega) hL4 ?_
        refine q_aload_n hJ dL_law_750 (q := 751) rfl rfl (by first | rfl | exact isR_rr _) ?_
        refine q_iload_n hJ dL_law_751 (q := 752) rfl rfl ?_
        refine q_iconst hJ (v := 2) dL_law_752 (q := 753) rfl (by decide) ?_
        refine q_iadd hJ dL_law_753 (q := 754) rfl ?_
        refine q_lld hL dL_law_754 (q := 755) rfl (j := i + 2) (nIl_add i 2) (by omega) hL4 ?_
        refine q_callV hJ dL_law_755 (q := 758) rfl (M_firing (xs (i + 1)) (xs (i + 2)) A hs h sn kp tx tn I R hC0.1 hM0) imX11_firing ln_L_96 (by first | exact ka_x | exact ka317) (by decide) rfl rfl rfl rfl (Nat.le_of_ble_eq_true rfl) (by decide) (by decide) rfl rfl (fun rv gv Iv Rv hv => ?_)
        obtain ⟨rfl, rfl, rfl, rfl⟩ := hv
        refine q_icmp_eq hJ (tgt := 978) dL_law_758 (q := 761) rfl (by decide) (fun _ => ?_) (fun ce => absurd rfl ce)
        exact next _ _ hI
      by_cases k_19 : (xs i &&& 31) = 19
      · refine q_tswIn hJ (off := 730) (tgt := 763) dL_law_33 (by rw [k_19]; decide) (by rw [k_19]; decide) (by rw [k_19]; decide) (by decide) ?_
        refine q_aload_n hJ dL_law_763 (q := 764) rfl rfl (by first | rfl | exact isR_rr _) ?_
        refine q_aload_n hJ dL_law_764 (q := 765) rfl rfl (by first | rfl | exact isR_rr _) ?_
        refine q_iload_n hJ dL_law_765 (q := 766) rfl rfl ?_
        refine q_iconst hJ (v := 1) dL_law_766 (q := 767) rfl (by decide) ?_
        refine q_iadd hJ dL_law_767 (q := 768) rfl ?_
        refine q_lld hL dL_law_768 (q := 769) rfl (j := i + 1) (nIl_add i 1) (by omega) hL4 ?_
        refine q_callV hJ dL_law_769 (q := 772) rfl (S_total (xs (i + 1)) A hs h sn kp tx tn B I R hC0) imX10_total ln_L_97 (by first | exact ka_x | exact ka317) (by decide) rfl rfl rfl rfl (Nat.le_of_ble_eq_true rfl) (by decide) (by decide) rfl rfl (fun rv gv Iv Rv hv => ?_)
        obtain ⟨rfl, rfl, rfl, rfl⟩ := hv
        refine q_aload_n hJ dL_law_772 (q := 773) rfl rfl (by first | rfl | exact isR_rr _) ?_
        refine q_aload_n hJ dL_law_773 (q := 774) rfl rfl (by first | rfl | exact isR_rr _) ?_
        refine q_iload_n hJ dL_law_774 (q := 775) rfl rfl ?_
        refine q_iconst hJ (v := 1) dL_law_775 (q := 776) rfl (by decide) ?_
        refine q_iadd hJ dL_law_776 (q := 777) rfl ?_
        refine q_lld hL dL_law_777 (q := 778) rfl (j := i + 1) (nIl_add i 1) (by omega) hL4 ?_
        refine q_callV hJ dL_law_778 (q := 781) rfl (M_total (xs (i + 1)) A hs h sn kp tx tn I R hC0.1 hM0) imX11_total ln_L_100 (by first | exact ka_x | exact ka317) (by decide) rfl rfl rfl rfl (Nat.le_of_ble_eq_true rfl) (by decide) (by decide) rfl rfl (fun rv gv Iv Rv hv => ?_)
        obtain ⟨rfl, rfl, rfl, rfl⟩ := hv
        refine q_icmp_eq hJ (tgt := 978) dL_law_781 (q := 784) rfl (by decide) (fun _ => ?_) (fun ce => absurd rfl ce)
        exact next _ _ hI
      by_cases k_20 : (xs i &&& 31) = 20
      · refine q_tswIn hJ (off := 753) (tgt := 786) dL_law_33 (by rw [k_20]; decide) (by rw [k_20]; decide) (by rw [k_20]; decide) (by decide) ?_
        refine q_aload_n hJ dL_law_786 (q := 787) rfl rfl (by first | rfl | exact isR_rr _) ?_
        refine q_aload_n hJ dL_law_787 (q := 788) rfl rfl (by first | rfl | exact isR_rr _) ?_
        refine q_iload_n hJ dL_law_788 (q := 789) rfl rfl ?_
        refine q_iconst hJ (v := 1) dL_law_789 (q := 790) rfl (by decide) ?_
        refine q_iadd hJ dL_law_790 (q := 791) rfl ?_
        refine q_lld hL dL_law_791 (q := 792) rfl (j := i + 1) (nIl_add i 1) (by omega) hL4 ?_
        refine q_aload_n hJ dL_law_792 (q := 793) rfl rfl (by first | rfl | exact isR_rr _) ?_
        refine q_iload_n hJ dL_law_793 (q := 794) rfl rfl ?_
        refine q_iconst hJ (v := 2) dL_law_794 (q := 795) rfl (by decide) ?_
        refine q_iadd hJ dL_law_795 (q := 796) rfl ?_
        refine q_lld hL dL_law_796 (q := 797) rfl (j := i + 2) (nIl_add i 2) (by omega) hL4 ?_
        refine q_aload_n hJ dL_law_797 (q := 798) rfl rfl (by first | rfl | exact isR_rr _) ?_
        refine q_iload_n hJ dL_law_798 (q := 799) rfl rfl ?_
        refine q_iconst hJ (v := 3) dL_law_799 (q := 800) rfl (by decide) ?_
        refine q_iadd hJ dL_law_800 (q := 801) rfl ?_
        refine q_lld hL dL_law_801 (q := 802) rfl (j := i + 3) (nIl_add i 3) (by omega) hL4 ?_
        refine q_aload_n hJ dL_law_802 (q := 803) rfl rfl (by first | rfl | exact isR_rr _) ?_
        refine q_iload_n hJ dL_law_803 (q := 804) rfl rfl ?_
        refine q_iconst hJ (v := 4) dL_law_804 (q := 805) rfl (by decide) ?_
        refine q_iadd hJ dL_law_805 (q := 806) rfl ?_
        refine q_lld hL dL_law_806 (q := 807) rfl (j := i + 4) (nIl_add i 4) (by omega) hL4 ?_
        refine q_aload_n hJ dL_law_807 (q := 808) rfl rfl (by first | rfl | exact isR_rr _) ?_
        refine q_iload_n hJ dL_law_808 (q := 809) rfl rfl ?_
        refine q_iconst hJ (v := 5) dL_law_809 (q := 810) rfl (by decide) ?_
        refine q_iadd hJ dL_law_810 (q := 811) rfl ?_
        refine q_lld hL dL_law_811 (q := 812) rfl (j := i + 5) (nIl_add i 5) (by omega) hL4 ?_
        refine q_callV hJ dL_law_812 (q := 815) rfl (S_ifIns (xs (i + 1)) (xs (i + 2)) (xs (i + 3)) (xs (i + 4)) (xs (i + 5)) A hs h sn kp tx tn B I R hC0) imX10_ifInserted ln_L_101 (by first | exact ka_x | exact ka317) (by decide) rfl rfl rfl rfl (Nat.le_of_ble_eq_true rfl) (by decide) (by decide) rfl rfl (fun rv gv Iv Rv hv => ?_)
        obtain ⟨rfl, rfl, ⟨B1, hC⟩, hhi⟩ := hv
        have hM1 := hM0.hi hhi
        have hFR1 : FR Rv := hC.1
        generalize Iv = I1 at *
        generalize Rv = R1 at *
        refine q_aload_n hJ dL_law_815 (q := 816) rfl rfl (by first | rfl | exact isR_rr _) ?_
        refine q_aload_n hJ dL_law_816 (q := 817) rfl rfl (by first | rfl | exact isR_rr _) ?_
        refine q_iload_n hJ dL_law_817 (q := 818) rfl rfl ?_
        refine q_iconst hJ (v := 1) dL_law_818 (q := 819) rfl (by decide) ?_
        refine q_iadd hJ dL_law_819 (q := 820) rfl ?_
        refine q_lld hL dL_law_820 (q := 821) rfl (j := i + 1) (nIl_add i 1) (by omega) hL4 ?_
        refine q_aload_n hJ dL_law_821 (q := 822) rfl rfl (by first | rfl | exact isR_rr _) ?_
        refine q_iload_n hJ dL_law_822 (q := 823) rfl rfl ?_
        refine q_iconst hJ (v := 2) dL_law_823 (q := 824) rfl (by decide) ?_
        refine q_iadd hJ dL_law_824 (q := 825) rfl ?_
        refine q_lld hL dL_law_825 (q := 826) rfl (j := i + 2) (nIl_add i 2) (by omega) hL4 ?_
        refine q_aload_n hJ dL_law_826 (q := 827) rfl rfl (by first | rfl | exact isR_rr _) ?_
        refine q_iload_n hJ dL_law_827 (q := 828) rfl rfl ?_
        refine q_iconst hJ (v := 3) dL_law_828 (q := 829) rfl (by decide) ?_
        refine q_iadd hJ dL_law_829 (q := 830) rfl ?_
        refine q_lld hL dL_law_830 (q := 831) rfl (j := i + 3) (nIl_add i 3) (by omega) hL4 ?_
        refine q_aload_n hJ dL_law_831 (q := 832) rfl rfl (by first | rfl | exact isR_rr _) ?_
        refine q_iload_n hJ dL_law_832 (q := 833) rfl rfl ?_
        refine q_iconst hJ (v := 4) dL_law_833 (q := 834) rfl (by decide) ?_
        refine q_iadd hJ dL_law_834 (q := 835) rfl ?_
        refine q_lld hL dL_law_835 (q := 836) rfl (j := i + 4) (nIl_add i 4) (by omega) hL4 ?_
        refine q_aload_n hJ dL_law_836 (q := 837) rfl rfl (by first | rfl | exact isR_rr _) ?_
        refine q_iload_n hJ dL_law_837 (q := 838) rfl rfl ?_
        refine q_iconst hJ (v := 5) dL_law_838 (q := 839) rfl (by decide) ?_
        refine q_iadd hJ dL_law_839 (q := 840) rfl ?_
        refine q_lld hL dL_law_840 (q := 841) rfl (j := i + 5) (nIl_add i 5) (by omega) hL4 ?_
        refine q_callV hJ dL_law_841 (q := 844) rfl (M_ifIns (xs (i + 1)) (xs (i + 2)) (xs (i + 3)) (xs (i + 4)) (xs (i + 5)) A hs h sn kp tx tn I1 R1 hFR1 hM1) imX11_ifInserted ln_L_105 (by first | exact ka_x | exact ka317) (by decide) rfl rfl rfl rfl (Nat.le_of_ble_eq_true rfl) (by decide) (by decide) rfl rfl (fun rv gv Iv Rv hv => ?_)
        obtain ⟨rfl, rfl, rfl, hlo, hM⟩ := hv
        refine q_icmp_eq hJ (tgt := 978) dL_law_844 (q := 847) rfl (by decide) (fun _ => ?_) (fun ce => absurd rfl ce)
        exact next _ _ (law_one hC hM hlo)
      by_cases k_21 : (xs i &&& 31) = 21
      · refine q_tswIn hJ (off := 816) (tgt := 849) dL_law_33 (by rw [k_21]; decide) (by rw [k_21]; decide) (by rw [k_21]; decide) (by decide) ?_
        refine q_aload_n hJ dL_law_849 (q := 850) rfl rfl (by first | rfl | exact isR_rr _) ?_
        refine q_aload_n hJ dL_law_850 (q := 851) rfl rfl (by first | rfl | exact isR_rr _) ?_
        refine q_iload_n hJ dL_law_851 (q := 852) rfl rfl ?_
        refine q_iconst hJ (v := 1) dL_law_852 (q := 853) rfl (by decide) ?_
        refine q_iadd hJ dL_law_853 (q := 854) rfl ?_
        refine q_lld hL dL_law_854 (q := 855) rfl (j := i + 1) (nIl_add i 1) (by omega) hL4 ?_
        refine q_aload_n hJ dL_law_855 (q := 856) rfl rfl (by first | rfl | exact isR_rr _) ?_
        refine q_iload_n hJ dL_law_856 (q := 857) rfl rfl ?_
        refine q_iconst hJ (v := 2) dL_law_857 (q := 858) rfl (by decide) ?_
        refine q_iadd hJ dL_law_858 (q := 859) rfl ?_
        refine q_lld hL dL_law_859 (q := 860) rfl (j := i + 2) (nIl_add i 2) (by omega) hL4 ?_
        refine q_aload_n hJ dL_law_860 (q := 861) rfl rfl (by first | rfl | exact isR_rr _) ?_
        refine q_iload_n hJ dL_law_861 (q := 862) rfl rfl ?_
        refine q_iconst hJ (v := 3) dL_law_862 (q := 863) rfl (by decide) ?_
        refine q_iadd hJ dL_law_863 (q := 864) rfl ?_
        refine q_lld hL dL_law_864 (q := 865) rfl (j := i + 3) (nIl_add i 3) (by omega) hL4 ?_
        refine q_aload_n hJ dL_law_865 (q := 866) rfl rfl (by first | rfl | exact isR_rr _) ?_
        refine q_iload_n hJ dL_law_866 (q := 867) rfl rfl ?_
        refine q_iconst hJ (v := 4) dL_law_867 (q := 868) rfl (by decide) ?_
        refine q_iadd hJ dL_law_868 (q := 869) rfl ?_
        refine q_lld hL dL_law_869 (q := 870) rfl (j := i + 4) (nIl_add i 4) (by omega) hL4 ?_
        refine q_callV hJ dL_law_870 (q := 873) rfl (S_ifUpd (xs (i + 1)) (xs (i + 2)) (xs (i + 3)) (xs (i + 4)) A hs h sn kp tx tn B I R hC0) imX10_ifUpdated ln_L_106 (by first | exact ka_x | exact ka317) (by decide) rfl rfl rfl rfl (Nat.le_of_ble_eq_true rfl) (by decide) (by decide) rfl rfl (fun rv gv Iv Rv hv => ?_)
        obtain ⟨rfl, rfl, ⟨B1, hC⟩, hhi⟩ := hv
        have hM1 := hM0.hi hhi
        have hFR1 : FR Rv := hC.1
        generalize Iv = I1 at *
        generalize Rv = R1 at *
        refine q_aload_n hJ dL_law_873 (q := 874) rfl rfl (by first | rfl | exact isR_rr _) ?_
        refine q_aload_n hJ dL_law_874 (q := 875) rfl rfl (by first | rfl | exact isR_rr _) ?_
        refine q_iload_n hJ dL_law_875 (q := 876) rfl rfl ?_
        refine q_iconst hJ (v := 1) dL_law_876 (q := 877) rfl (by decide) ?_
        refine q_iadd hJ dL_law_877 (q := 878) rfl ?_
        refine q_lld hL dL_law_878 (q := 879) rfl (j := i + 1) (nIl_add i 1) (by omega) hL4 ?_
        refine q_aload_n hJ dL_law_879 (q := 880) rfl rfl (by first | rfl | exact isR_rr _) ?_
        refine q_iload_n hJ dL_law_880 (q := 881) rfl rfl ?_
        refine q_iconst hJ (v := 2) dL_law_881 (q := 882) rfl (by decide) ?_
        refine q_iadd hJ dL_law_882 (q := 883) rfl ?_
        refine q_lld hL dL_law_883 (q := 884) rfl (j := i + 2) (nIl_add i 2) (by omega) hL4 ?_
        refine q_aload_n hJ dL_law_884 (q := 885) rfl rfl (by first | rfl | exact isR_rr _) ?_
        refine q_iload_n hJ dL_law_885 (q := 886) rfl rfl ?_
        refine q_iconst hJ (v := 3) dL_law_886 (q := 887) rfl (by decide) ?_
        refine q_iadd hJ dL_law_887 (q := 888) rfl ?_
        refine q_lld hL dL_law_888 (q := 889) rfl (j := i + 3) (nIl_add i 3) (by omega) hL4 ?_
        refine q_aload_n hJ dL_law_889 (q := 890) rfl rfl (by first | rfl | exact isR_rr _) ?_
        refine q_iload_n hJ dL_law_890 (q := 891) rfl rfl ?_
        refine q_iconst hJ (v := 4) dL_law_891 (q := 892) rfl (by decide) ?_
        refine q_iadd hJ dL_law_892 (q := 893) rfl ?_
        refine q_lld hL dL_law_893 (q := 894) rfl (j := i + 4) (nIl_add i 4) (by omega) hL4 ?_
        refine q_callV hJ dL_law_894 (q := 897) rfl (M_ifUpd (xs (i + 1)) (xs (i + 2)) (xs (i + 3)) (xs (i + 4)) A hs h sn kp tx tn I1 R1 hFR1 hM1) imX11_ifUpdated ln_L_109 (by first | exact ka_x | exact ka317) (by decide) rfl rfl rfl rfl (Nat.le_of_ble_eq_true rfl) (by decide) (by decide) rfl rfl (fun rv gv Iv Rv hv => ?_)
        obtain ⟨rfl, rfl, rfl, hlo, hM⟩ := hv
        refine q_icmp_eq hJ (tgt := 978) dL_law_897 (q := 900) rfl (by decide) (fun _ => ?_) (fun ce => absurd rfl ce)
        exact next _ _ (law_one hC hM hlo)
      by_cases k_22 : (xs i &&& 31) = 22
      · refine q_tswIn hJ (off := 869) (tgt := 902) dL_law_33 (by rw [k_22]; decide) (by rw [k_22]; decide) (by rw [k_22]; decide) (by decide) ?_
        refine q_aload_n hJ dL_law_902 (q := 903) rfl rfl (by first | rfl | exact isR_rr _) ?_
        refine q_aload_n hJ dL_law_903 (q := 904) rfl rfl (by first | rfl | exact isR_rr _) ?_
        refine q_iload_n hJ dL_law_904 (q := 905) rfl rfl ?_
        refine q_iconst hJ (v := 1) dL_law_905 (q := 906) rfl (by decide) ?_
        refine q_iadd hJ dL_law_906 (q := 907) rfl ?_
        refine q_lld hL dL_law_907 (q := 908) rfl (j := i + 1) (nIl_add i 1) (by omega) hL4 ?_
        refine q_aload_n hJ dL_law_908 (q := 909) rfl rfl (by first | rfl | exact isR_rr _) ?_
        refine q_iload_n hJ dL_law_909 (q := 910) rfl rfl ?_
        refine q_iconst hJ (v := 2) dL_law_910 (q := 911) rfl (by decide) ?_
        refine q_iadd hJ dL_law_911 (q := 912) rfl ?_
        refine q_lld hL dL_law_912 (q := 913) rfl (j := i + 2) (nIl_add i 2) (by omega) hL4 ?_
        refine q_callV hJ dL_law_913 (q := 916) rfl (S_ifDel (xs (i + 1)) (xs (i + 2)) A hs h sn kp tx tn B I R hC0) imX10_ifDeleted ln_L_110 (by first | exact ka_x | exact ka317) (by decide) rfl rfl rfl rfl (Nat.le_of_ble_eq_true rfl) (by decide) (by decide) rfl rfl (fun rv gv Iv Rv hv => ?_)
        obtain ⟨rfl, rfl, ⟨B1, hC⟩, hhi⟩ := hv
        have hM1 := hM0.hi hhi
        have hFR1 : FR Rv := hC.1
        generalize Iv = I1 at *
        generalize Rv = R1 at *
        refine q_aload_n hJ dL_law_916 (q := 917) rfl rfl (by first | rfl | exact isR_rr _) ?_
        refine q_aload_n hJ dL_law_917 (q := 918) rfl rfl (by first | rfl | exact isR_rr _) ?_
        refine q_iload_n hJ dL_law_918 (q := 919) rfl rfl ?_
        refine q_iconst hJ (v := 1) dL_law_919 (q := 920) rfl (by decide) ?_
        refine q_iadd hJ dL_law_920 (q := 921) rfl ?_
        refine q_lld hL dL_law_921 (q := 922) rfl (j := i + 1) (nIl_add i 1) (by omega) hL4 ?_
        refine q_aload_n hJ dL_law_922 (q := 923) rfl rfl (by first | rfl | exact isR_rr _) ?_
        refine q_iload_n hJ dL_law_923 (q := 924) rfl rfl ?_
        refine q_iconst hJ (v := 2) dL_law_924 (q := 925) rfl (by decide) ?_
        refine q_iadd hJ dL_law_925 (q := 926) rfl ?_
        refine q_lld hL dL_law_926 (q := 927) rfl (j := i + 2) (nIl_add i 2) (by omega) hL4 ?_
        refine q_callV hJ dL_law_927 (q := 930) rfl (M_ifDel (xs (i + 1)) (xs (i + 2)) A hs h sn kp tx tn I1 R1 hFR1 hM1) imX11_ifDeleted ln_L_113 (by first | exact ka_x | exact ka317) (by decide) rfl rfl rfl rfl (Nat.le_of_ble_eq_true rfl) (by decide) (by decide) rfl rfl (fun rv gv Iv Rv hv => ?_)
        obtain ⟨rfl, rfl, rfl, hlo, hM⟩ := hv
        refine q_icmp_eq hJ (tgt := 978) dL_law_930 (q := 933) rfl (by decide) (fun _ => ?_) (fun ce => absurd rfl ce)
        exact next _ _ (law_one hC hM hlo)
      by_cases k_23 : (xs i &&& 31) = 23
      · refine q_tswIn hJ (off := 902) (tgt := 935) dL_law_33 (by rw [k_23]; decide) (by rw [k_23]; decide) (by rw [k_23]; decide) (by decide) ?_
        refine q_aload_n hJ dL_law_935 (q := 936) rfl rfl (by first | rfl | exact isR_rr _) ?_
        refine q_aload_n hJ dL_law_936 (q := 937) rfl rfl (by first | rfl | exact isR_rr _) ?_
        refine q_iload_n hJ dL_law_937 (q := 938) rfl rfl ?_
        refine q_iconst hJ (v := 1) dL_law_938 (q := 939) rfl (by decide) ?_
        refine q_iadd hJ dL_law_939 (q := 940) rfl ?_
        refine q_lld hL dL_law_940 (q := 941) rfl (j := i + 1) (nIl_add i 1) (by omega) hL4 ?_
        refine q_aload_n hJ dL_law_941 (q := 942) rfl rfl (by first | rfl | exact isR_rr _) ?_
        refine q_iload_n hJ dL_law_942 (q := 943) rfl rfl ?_
        refine q_iconst hJ (v := 2) dL_law_943 (q := 944) rfl (by decide) ?_
        refine q_iadd hJ dL_law_944 (q := 945) rfl ?_
        refine q_lld hL dL_law_945 (q := 946) rfl (j := i + 2) (nIl_add i 2) (by omega) hL4 ?_
        refine q_aload_n hJ dL_law_946 (q := 947) rfl rfl (by first | rfl | exact isR_rr _) ?_
        refine q_iload_n hJ dL_law_947 (q := 948) rfl rfl ?_
        refine q_iconst hJ (v := 3) dL_law_948 (q := 949) rfl (by decide) ?_
        refine q_iadd hJ dL_law_949 (q := 950) rfl ?_
        refine q_lld hL dL_law_950 (q := 951) rfl (j := i + 3) (nIl_add i 3) (by omega) hL4 ?_
        refine q_callV hJ dL_law_951 (q := 954) rfl (S_depthFor (xs (i + 1)) (xs (i + 2)) (xs (i + 3)) A hs h sn kp tx tn B I R hC0) imX10_depthFor ln_L_114 (by first | exact ka_x | exact ka317) (by decide) rfl rfl rfl rfl (Nat.le_of_ble_eq_true rfl) (by decide) (by decide) rfl rfl (fun rv gv Iv Rv hv => ?_)
        obtain ⟨rfl, rfl, ⟨B1, hC⟩, hhi⟩ := hv
        have hM1 := hM0.hi hhi
        have hFR1 : FR Rv := hC.1
        generalize Iv = I1 at *
        generalize Rv = R1 at *
        refine q_aload_n hJ dL_law_954 (q := 955) rfl rfl (by first | rfl | exact isR_rr _) ?_
        refine q_aload_n hJ dL_law_955 (q := 956) rfl rfl (by first | rfl | exact isR_rr _) ?_
        refine q_iload_n hJ dL_law_956 (q := 957) rfl rfl ?_
        refine q_iconst hJ (v := 1) dL_law_957 (q := 958) rfl (by decide) ?_
        refine q_iadd hJ dL_law_958 (q := 959) rfl ?_
        refine q_lld hL dL_law_959 (q := 960) rfl (j := i + 1) (nIl_add i 1) (by omega) hL4 ?_
        refine q_aload_n hJ dL_law_960 (q := 961) rfl rfl (by first | rfl | exact isR_rr _) ?_
        refine q_iload_n hJ dL_law_961 (q := 962) rfl rfl ?_
        refine q_iconst hJ (v := 2) dL_law_962 (q := 963) rfl (by decide) ?_
        refine q_iadd hJ dL_law_963 (q := 964) rfl ?_
        refine q_lld hL dL_law_964 (q := 965) rfl (j := i + 2) (nIl_add i 2) (by omega) hL4 ?_
        refine q_aload_n hJ dL_law_965 (q := 966) rfl rfl (by first | rfl | exact isR_rr _) ?_
        refine q_iload_n hJ dL_law_966 (q := 967) rfl rfl ?_
        refine q_iconst hJ (v := 3) dL_law_967 (q := 968) rfl (by decide) ?_
        refine q_iadd hJ dL_law_968 (q := 969) rfl ?_
        refine q_lld hL dL_law_969 (q := 970) rfl (j := i + 3) (nIl_add i 3) (by omega) hL4 ?_
        refine q_callV hJ dL_law_970 (q := 973) rfl (M_depthFor (xs (i + 1)) (xs (i + 2)) (xs (i + 3)) A hs h sn kp tx tn I1 R1 hFR1 hM1) imX11_depthFor ln_L_117 (by first | exact ka_x | exact ka317) (by decide) rfl rfl rfl rfl (Nat.le_of_ble_eq_true rfl) (by decide) (by decide) rfl rfl (fun rv gv Iv Rv hv => ?_)
        obtain ⟨rfl, rfl, rfl, hlo, hM⟩ := hv
        refine q_icmp_eq hJ (tgt := 978) dL_law_973 (q := 976) rfl (by decide) (fun _ => ?_) (fun ce => absurd rfl ce)
        exact next _ _ (law_one hC hM hlo)
      refine q_tswOut hJ (tgt := 978) dL_law_33 (tsw_out24 k_0 k_1 k_2 k_3 k_4 k_5 k_6 k_7 k_8 k_9 k_10 k_11 k_12 k_13 k_14 k_15 k_16 k_17 k_18 k_19 k_20 k_21 k_22 k_23) (by decide) ?_
      exact next _ _ hI
