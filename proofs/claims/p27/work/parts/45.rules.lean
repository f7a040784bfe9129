/-! THE LAW'S METHODS: rules, does -/
theorem VI.sub {a b : Nat} (h : a ≤ b + 999) (hb : b ≤ 999) : ¬ inR (nI a - nI b) (-999) 999 = 0 := by
  have k := sub_VI h hb
  unfold inR
  rw [if_neg k.1, if_neg k.2]
  decide
theorem in_lt {a n : Nat} (h : a ≤ n) (hn : n < 1000) {M : Int32} (hM : nI n = M) : ¬ inR (nI a) 0 M = 0 := by
  subst hM
  unfold inR
  rw [if_neg (nI_pos (n := a) (by omega)), if_neg (nI_nlt (a := n) (b := a) h (by omega))]
  decide
theorem kind_0 {k : Nat} (h : k < 3) : ¬ kindF (nI 0) (nI k) = 0 := by
  rcases (show k = 0 ∨ k = 1 ∨ k = 2 by omega) with rfl | rfl | rfl <;> decide
theorem kind_1 {k : Nat} (h : k = 1 ∨ (3 ≤ k ∧ k < 6)) : ¬ kindF (nI 1) (nI k) = 0 := by
  rcases (show k = 1 ∨ k = 3 ∨ k = 4 ∨ k = 5 by omega) with rfl | rfl | rfl | rfl <;> decide
theorem add_ok {A : AS} {e m rk kd a b x : Nat} (he : e < 3) (hm : m < 2) (hr : rk < 5) (hk : ¬ kindF (nI m) (nI kd) = 0) (ha : a < 3) (hb : b < 4) (hx : x < 9) (hM : aM A < 12) : addOk A (nI e) (nI m) (nI rk) (nI kd) (nI a) (nI b) (nI x - 2) := by
  refine ⟨fun z => ?_, hM⟩
  rcases z with z | z | z | z | z | z | z
  · exact in_lt (n := 2) (by omega) (by decide) rfl z
  · exact in_lt (n := 1) (by omega) (by decide) rfl z
  · exact in_lt (n := 99) (by omega) (by decide) rfl z
  · exact hk z
  · exact in_lt (n := 2) (by omega) (by decide) rfl z
  · exact in_lt (n := 3) (by omega) (by decide) rfl z
  · exact VI.sub (a := x) (b := 2) (by omega) (by decide) z
theorem add_V {A : AS} {e m rk kd a b c : Int32} (h : addOk A e m rk kd a b c) : addV A e m rk kd a b c = nI (aM A) := by
  rw [addV, if_neg h.1, if_pos h.2]
theorem add_R {A : AS} {e m rk kd a b c : Int32} (h : addOk A e m rk kd a b c) (w : Int32) : ruleF (setR A (addU A e m rk kd a b c) (aM A + 1)) (nI (aM A)) w = tellF (defU e m rk kd a b c) w := by
  have h2 := h.2
  rw [rul_at (A := setR A (addU A e m rk kd a b c) (aM A + 1)) (r := aM A) (Nat.lt_succ_self _) h2 w]
  show tellF (if aM A = aM A then defU e m rk kd a b c else aU A (aM A)) w = _
  rw [if_pos rfl]
theorem okR_at {A : AS} {r : Nat} (h : r < aM A) (hm : aM A ≤ 12) : okR A (nI r) := fun z => z.elim (nI_pos (n := r) (by omega)) (nI_ge h (by omega))
theorem okR_n {A : AS} {r : Nat} (h : aM A ≤ r) (hr : r < 1000) : ¬ okR A (nI r) := fun z => z (Or.inr ((nI_leI (by omega) (by omega)).mpr h))
theorem con_ok {A : AS} {f c x : Nat} {r : Nat} (hr : r < aM A) (hm : aM A ≤ 12) (hf : f < 4) (hc : c < 6) (hx : x < 24) : conOk A (nI r) (nI f) (nI c) (nI x - 4) := ⟨okR_at hr hm, in_lt (n := 3) (by omega) (by decide) rfl, in_lt (n := 5) (by omega) (by decide) rfl, VI.sub (a := x) (b := 4) (by omega) (by decide)⟩
theorem con_V {A : AS} {r f c n : Int32} (h : conOk A r f c n) : conV A r f c n = r := by
  obtain ⟨h1, h2, h3, h4⟩ := h
  rw [conV, if_neg (fun z => h1 (Or.inl z)), if_neg (fun z => h1 (Or.inr z)), if_neg h2, if_neg h3, if_neg h4]
theorem drop_V {A : AS} {r : Nat} (h : r < aM A) (hm : aM A ≤ 12) : dropV A (nI r) = nI (aM A - 1) := by
  have k := okR_at h hm
  rw [dropV, if_neg (fun z => k (Or.inl z)), if_neg (fun z => k (Or.inr z))]
set_option maxRecDepth 100000 in
set_option maxHeartbeats 1000000 in
theorem S_rules (A : AS) (v : Int32) (I : MI) (R : MR) (hO : Ob I R A) (hA : Good A) : Sp 40 0 0 mL_rules [.ref 0, .int v] g0 I R (DoP) := by
  refine Sp.on (by decide +kernel) rfl rfl (fun J hM => ?_)
  have hJ := hM.ok
  have hMl := hA.2.2.1
  have rest : ∀ (mo kd : Nat), mo < 2 → ¬ kindF (nI mo) (nI kd) = 0 → J 0 0 58 [some (.ref 0), some (.int v), some (.int (nI (aM A))), some (.int (nI mo)), some (.int (nI kd)), none, none, none] [] g0 I R := by
    intro mo kd hmo hkd
    by_cases hM12 : aM A = 12
    · refine q_iload_n hJ dL_rules_58 (q := 59) rfl rfl ?_
      refine q_bipush hJ (v := 12) dL_rules_59 (q := 61) rfl (by decide) ?_
      refine q_icmp_ne hJ (tgt := 104) dL_rules_61 (q := 64) rfl (by decide) (fun c1 => absurd (show nI (aM A) = 12 by rw [hM12]; rfl) c1) (fun _ => ?_)
      refine q_aload_n hJ dL_rules_64 (q := 65) rfl rfl rfl ?_
      refine q_iconst hJ (v := 0) dL_rules_65 (q := 66) rfl (by decide) ?_
      refine q_iconst hJ (v := 0) dL_rules_66 (q := 67) rfl (by decide) ?_
      refine q_iconst hJ (v := 0) dL_rules_67 (q := 68) rfl (by decide) ?_
      refine q_iconst hJ (v := 0) dL_rules_68 (q := 69) rfl (by decide) ?_
      refine q_iconst hJ (v := 0) dL_rules_69 (q := 70) rfl (by decide) ?_
      refine q_iconst hJ (v := 0) dL_rules_70 (q := 71) rfl (by decide) ?_
      refine q_iconst hJ (v := 0) dL_rules_71 (q := 72) rfl (by decide) ?_
      refine q_callV hJ dL_rules_72 (q := 75) rfl ((O_add 0 0 0 0 0 0 0 hO).valQ (show addV A 0 0 0 0 0 0 0 = -1003 by rw [addV, if_neg (by decide), if_neg (by omega)])) imX10_addRule ln_L_78 ka_x (by decide) rfl rfl rfl rfl (Nat.le_of_ble_eq_true rfl) (by decide) (by decide) rfl rfl (fun rv gv Iv Rv hv => ?_)
      obtain ⟨rfl, rfl, ⟨hY1, hN1⟩, hT1⟩ := hv
      have hO1 := hN1 (fun z => absurd z.2 (by omega))
      refine q_sipush hJ (v := (-1003)) dL_rules_75 (q := 78) rfl (by decide) ?_
      refine q_icmp_ne hJ (tgt := 102) dL_rules_78 (q := 81) rfl (by decide) (fun c2 => absurd rfl c2) (fun _ => ?_)
      refine q_aload_n hJ dL_rules_81 (q := 82) rfl rfl rfl ?_
      refine q_iload_n hJ dL_rules_82 (q := 83) rfl rfl ?_
      refine q_iconst hJ (v := 5) dL_rules_83 (q := 84) rfl (by decide) ?_
      refine q_ishr hJ dL_rules_84 (q := 85) rfl ?_
      refine q_bipush hJ (v := 12) dL_rules_85 (q := 87) rfl (by decide) ?_
      refine q_callS hJ dL_rules_87 (q := 90) rfl (S_low _ 12 (by decide) _ _) imL_low ln_L_8 rfl rfl rfl (Nat.le_of_ble_eq_true rfl) (by decide) (by decide) rfl rfl (fun rv gv Iv Rv hv => ?_)
      obtain ⟨j4, hj4, rfl, rfl, rfl, rfl⟩ := hv
      refine q_callV hJ dL_rules_90 (q := 93) rfl ((O_remove (nI j4) hO1).valQ (show dropV A (nI j4) = 11 by rw [drop_V (by omega) hMl, hM12]; rfl)) imX10_removeRule ln_L_82 ka_x (by decide) rfl rfl rfl rfl (Nat.le_of_ble_eq_true rfl) (by decide) (by decide) rfl rfl (fun rv gv Iv Rv hv => ?_)
      obtain ⟨rfl, rfl, ⟨hY2, hN2⟩, hT2⟩ := hv
      refine q_bipush hJ (v := 11) dL_rules_93 (q := 95) rfl (by decide) ?_
      refine q_icmp_ne hJ (tgt := 102) dL_rules_95 (q := 98) rfl (by decide) (fun c3 => absurd rfl c3) (fun _ => ?_)
      refine q_iconst hJ (v := 1) dL_rules_98 (q := 99) rfl (by decide) ?_
      refine q_goto hJ (tgt := 103) dL_rules_99 (by decide) ?_
      refine q_iret hM dL_rules_103 rfl (by decide) ?_
      exact ⟨rfl, rfl, _, (hY2 (okR_at (by omega) hMl)), (by rw [nI_clamp (by omega)]; exact hA.drop (by omega))⟩
    · have hlt : aM A < 12 := by omega
      refine q_iload_n hJ dL_rules_58 (q := 59) rfl rfl ?_
      refine q_bipush hJ (v := 12) dL_rules_59 (q := 61) rfl (by decide) ?_
      refine q_icmp_ne hJ (tgt := 104) dL_rules_61 (q := 64) rfl (by decide) (fun _ => ?_) (fun c1 => absurd c1 (fun z => absurd ((nI_eq (a := aM A) (b := 12) (by omega) (by decide)).mp z) (by omega)))
      refine q_iload_n hJ dL_rules_104 (q := 105) rfl rfl ?_
      refine q_bipush hJ (v := 16) dL_rules_105 (q := 107) rfl (by decide) ?_
      refine q_ishr hJ dL_rules_107 (q := 108) rfl ?_
      refine q_bipush hJ (v := 9) dL_rules_108 (q := 110) rfl (by decide) ?_
      refine q_callS hJ dL_rules_110 (q := 113) rfl (S_low _ 9 (by decide) _ _) imL_low ln_L_8 rfl rfl rfl (Nat.le_of_ble_eq_true rfl) (by decide) (by decide) rfl rfl (fun rv gv Iv Rv hv => ?_)
      obtain ⟨j5, hj5, rfl, rfl, rfl, rfl⟩ := hv
      refine q_iconst hJ (v := 2) dL_rules_113 (q := 114) rfl (by decide) ?_
      refine q_isub hJ dL_rules_114 (q := 115) rfl ?_
      refine q_istore hJ dL_rules_115 (q := 117) rfl (by decide) ?_
      refine q_aload_n hJ dL_rules_117 (q := 118) rfl rfl rfl ?_
      refine q_iload_n hJ dL_rules_118 (q := 119) rfl rfl ?_
      refine q_bipush hJ (v := 10) dL_rules_119 (q := 121) rfl (by decide) ?_
      refine q_ishr hJ dL_rules_121 (q := 122) rfl ?_
      refine q_iconst hJ (v := 3) dL_rules_122 (q := 123) rfl (by decide) ?_
      refine q_callS hJ dL_rules_123 (q := 126) rfl (S_low _ 3 (by decide) _ _) imL_low ln_L_8 rfl rfl rfl (Nat.le_of_ble_eq_true rfl) (by decide) (by decide) rfl rfl (fun rv gv Iv Rv hv => ?_)
      obtain ⟨j6, hj6, rfl, rfl, rfl, rfl⟩ := hv
      refine q_iload_n hJ dL_rules_126 (q := 127) rfl rfl ?_
      refine q_iload_n hJ dL_rules_127 (q := 128) rfl rfl ?_
      refine q_bipush hJ (v := 12) dL_rules_128 (q := 130) rfl (by decide) ?_
      refine q_ishr hJ dL_rules_130 (q := 131) rfl ?_
      refine q_iconst hJ (v := 5) dL_rules_131 (q := 132) rfl (by decide) ?_
      refine q_callS hJ dL_rules_132 (q := 135) rfl (S_low _ 5 (by decide) _ _) imL_low ln_L_8 rfl rfl rfl (Nat.le_of_ble_eq_true rfl) (by decide) (by decide) rfl rfl (fun rv gv Iv Rv hv => ?_)
      obtain ⟨j7, hj7, rfl, rfl, rfl, rfl⟩ := hv
      refine q_iload hJ dL_rules_135 (q := 137) rfl rfl ?_
      refine q_iload_n hJ dL_rules_137 (q := 138) rfl rfl ?_
      refine q_bipush hJ (v := 14) dL_rules_138 (q := 140) rfl (by decide) ?_
      refine q_ishr hJ dL_rules_140 (q := 141) rfl ?_
      refine q_iconst hJ (v := 3) dL_rules_141 (q := 142) rfl (by decide) ?_
      refine q_callS hJ dL_rules_142 (q := 145) rfl (S_low _ 3 (by decide) _ _) imL_low ln_L_8 rfl rfl rfl (Nat.le_of_ble_eq_true rfl) (by decide) (by decide) rfl rfl (fun rv gv Iv Rv hv => ?_)
      obtain ⟨j8, hj8, rfl, rfl, rfl, rfl⟩ := hv
      refine q_iload_n hJ dL_rules_145 (q := 146) rfl rfl ?_
      refine q_bipush hJ (v := 13) dL_rules_146 (q := 148) rfl (by decide) ?_
      refine q_ishr hJ dL_rules_148 (q := 149) rfl ?_
      refine q_iconst hJ (v := 4) dL_rules_149 (q := 150) rfl (by decide) ?_
      refine q_callS hJ dL_rules_150 (q := 153) rfl (S_low _ 4 (by decide) _ _) imL_low ln_L_8 rfl rfl rfl (Nat.le_of_ble_eq_true rfl) (by decide) (by decide) rfl rfl (fun rv gv Iv Rv hv => ?_)
      obtain ⟨j9, hj9, rfl, rfl, rfl, rfl⟩ := hv
      refine q_iload hJ dL_rules_153 (q := 155) rfl rfl ?_
      refine q_callV hJ dL_rules_155 (q := 158) rfl ((O_add (nI j6) (nI mo) (nI j7) (nI kd) (nI j8) (nI j9) (nI j5 - 2) hO).valQ (add_V (add_ok (A := A) hj6 hmo hj7 hkd hj8 hj9 hj5 hlt))) imX10_addRule ln_L_78 ka_x (by decide) rfl rfl rfl rfl (Nat.le_of_ble_eq_true rfl) (by decide) (by decide) rfl rfl (fun rv gv Iv Rv hv => ?_)
      obtain ⟨rfl, rfl, ⟨hY1, hN1⟩, hT1⟩ := hv
      have hok := (add_ok (A := A) hj6 hmo hj7 hkd hj8 hj9 hj5 hlt)
      have hO1 := hY1 hok
      have hA1 := hA.add hok
      refine q_istore hJ dL_rules_158 (q := 160) rfl (by decide) ?_
      refine q_iload hJ dL_rules_160 (q := 162) rfl rfl ?_
      refine q_iload_n hJ dL_rules_162 (q := 163) rfl rfl ?_
      refine q_icmp_ne hJ (tgt := 246) dL_rules_163 (q := 166) rfl (by decide) (fun c2 => absurd rfl c2) (fun _ => ?_)
      refine q_aload_n hJ dL_rules_166 (q := 167) rfl rfl rfl ?_
      refine q_iload_n hJ dL_rules_167 (q := 168) rfl rfl ?_
      refine q_iconst hJ (v := 3) dL_rules_168 (q := 169) rfl (by decide) ?_
      refine q_callV hJ dL_rules_169 (q := 172) rfl ((O_rule (nI (aM A)) 3 hO1).val (w := nI kd) (add_R hok 3)) imX10_rule ln_L_26 ka_x (by decide) rfl rfl rfl rfl (Nat.le_of_ble_eq_true rfl) (by decide) (by decide) rfl rfl (fun rv gv Iv Rv hv => ?_)
      obtain ⟨rfl, rfl, rfl, rfl⟩ := hv
      refine q_iload hJ dL_rules_172 (q := 174) rfl rfl ?_
      refine q_icmp_ne hJ (tgt := 246) dL_rules_174 (q := 177) rfl (by decide) (fun e0 => absurd rfl e0) (fun _ => ?_)
      refine q_aload_n hJ dL_rules_177 (q := 178) rfl rfl rfl ?_
      refine q_iload_n hJ dL_rules_178 (q := 179) rfl rfl ?_
      refine q_bipush hJ (v := 6) dL_rules_179 (q := 181) rfl (by decide) ?_
      refine q_callV hJ dL_rules_181 (q := 184) rfl ((O_rule (nI (aM A)) 6 hO1).val (w := (nI j5 - 2)) (add_R hok 6)) imX10_rule ln_L_26 ka_x (by decide) rfl rfl rfl rfl (Nat.le_of_ble_eq_true rfl) (by decide) (by decide) rfl rfl (fun rv gv Iv Rv hv => ?_)
      obtain ⟨rfl, rfl, rfl, rfl⟩ := hv
      refine q_iload hJ dL_rules_184 (q := 186) rfl rfl ?_
      refine q_icmp_ne hJ (tgt := 246) dL_rules_186 (q := 189) rfl (by decide) (fun e1 => absurd rfl e1) (fun _ => ?_)
      refine q_aload_n hJ dL_rules_189 (q := 190) rfl rfl rfl ?_
      refine q_iload_n hJ dL_rules_190 (q := 191) rfl rfl ?_
      refine q_bipush hJ (v := 7) dL_rules_191 (q := 193) rfl (by decide) ?_
      refine q_callV hJ dL_rules_193 (q := 196) rfl ((O_rule (nI (aM A)) 7 hO1).val (w := 3) (add_R hok 7)) imX10_rule ln_L_26 ka_x (by decide) rfl rfl rfl rfl (Nat.le_of_ble_eq_true rfl) (by decide) (by decide) rfl rfl (fun rv gv Iv Rv hv => ?_)
      obtain ⟨rfl, rfl, rfl, rfl⟩ := hv
      refine q_iconst hJ (v := 3) dL_rules_196 (q := 197) rfl (by decide) ?_
      refine q_icmp_ne hJ (tgt := 246) dL_rules_197 (q := 200) rfl (by decide) (fun e2 => absurd rfl e2) (fun _ => ?_)
      refine q_aload_n hJ dL_rules_200 (q := 201) rfl rfl rfl ?_
      refine q_iload_n hJ dL_rules_201 (q := 202) rfl rfl ?_
      refine q_bipush hJ (v := 8) dL_rules_202 (q := 204) rfl (by decide) ?_
      refine q_callV hJ dL_rules_204 (q := 207) rfl ((O_rule (nI (aM A)) 8 hO1).val (w := 4) (add_R hok 8)) imX10_rule ln_L_26 ka_x (by decide) rfl rfl rfl rfl (Nat.le_of_ble_eq_true rfl) (by decide) (by decide) rfl rfl (fun rv gv Iv Rv hv => ?_)
      obtain ⟨rfl, rfl, rfl, rfl⟩ := hv
      refine q_iconst hJ (v := 4) dL_rules_207 (q := 208) rfl (by decide) ?_
      refine q_icmp_ne hJ (tgt := 246) dL_rules_208 (q := 211) rfl (by decide) (fun e3 => absurd rfl e3) (fun _ => ?_)
      refine q_aload_n hJ dL_rules_211 (q := 212) rfl rfl rfl ?_
      refine q_iload_n hJ dL_rules_212 (q := 213) rfl rfl ?_
      refine q_bipush hJ (v := 9) dL_rules_213 (q := 215) rfl (by decide) ?_
      refine q_callV hJ dL_rules_215 (q := 218) rfl ((O_rule (nI (aM A)) 9 hO1).val (w := 0) (add_R hok 9)) imX10_rule ln_L_26 ka_x (by decide) rfl rfl rfl rfl (Nat.le_of_ble_eq_true rfl) (by decide) (by decide) rfl rfl (fun rv gv Iv Rv hv => ?_)
      obtain ⟨rfl, rfl, rfl, rfl⟩ := hv
      refine q_if_ne hJ (tgt := 246) dL_rules_218 (q := 221) rfl (by decide) (fun e4 => absurd rfl e4) (fun _ => ?_)
      refine q_aload_n hJ dL_rules_221 (q := 222) rfl rfl rfl ?_
      refine q_iload_n hJ dL_rules_222 (q := 223) rfl rfl ?_
      refine q_bipush hJ (v := 10) dL_rules_223 (q := 225) rfl (by decide) ?_
      refine q_callV hJ dL_rules_225 (q := 228) rfl ((O_rule (nI (aM A)) 10 hO1).val (w := 1) (add_R hok 10)) imX10_rule ln_L_26 ka_x (by decide) rfl rfl rfl rfl (Nat.le_of_ble_eq_true rfl) (by decide) (by decide) rfl rfl (fun rv gv Iv Rv hv => ?_)
      obtain ⟨rfl, rfl, rfl, rfl⟩ := hv
      refine q_iconst hJ (v := 1) dL_rules_228 (q := 229) rfl (by decide) ?_
      refine q_icmp_ne hJ (tgt := 246) dL_rules_229 (q := 232) rfl (by decide) (fun e5 => absurd rfl e5) (fun _ => ?_)
      refine q_aload_n hJ dL_rules_232 (q := 233) rfl rfl rfl ?_
      refine q_iload_n hJ dL_rules_233 (q := 234) rfl rfl ?_
      refine q_bipush hJ (v := 11) dL_rules_234 (q := 236) rfl (by decide) ?_
      refine q_callV hJ dL_rules_236 (q := 239) rfl ((O_rule (nI (aM A)) 11 hO1).val (w := 0) (add_R hok 11)) imX10_rule ln_L_26 ka_x (by decide) rfl rfl rfl rfl (Nat.le_of_ble_eq_true rfl) (by decide) (by decide) rfl rfl (fun rv gv Iv Rv hv => ?_)
      obtain ⟨rfl, rfl, rfl, rfl⟩ := hv
      refine q_if_ne hJ (tgt := 246) dL_rules_239 (q := 242) rfl (by decide) (fun e6 => absurd rfl e6) (fun _ => ?_)
      refine q_iconst hJ (v := 1) dL_rules_242 (q := 243) rfl (by decide) ?_
      refine q_goto hJ (tgt := 247) dL_rules_243 (by decide) ?_
      refine q_istore hJ dL_rules_247 (q := 249) rfl (by decide) ?_
      refine q_iload hJ dL_rules_249 (q := 251) rfl rfl ?_
      refine q_if_eq hJ (tgt := 304) dL_rules_251 (q := 254) rfl (by decide) (fun f1 => absurd f1 (by decide)) (fun _ => ?_)
      refine q_iload_n hJ dL_rules_254 (q := 255) rfl rfl ?_
      refine q_bipush hJ (v := 20) dL_rules_255 (q := 257) rfl (by decide) ?_
      refine q_ishr hJ dL_rules_257 (q := 258) rfl ?_
      refine q_iconst hJ (v := 1) dL_rules_258 (q := 259) rfl (by decide) ?_
      refine q_iand hJ dL_rules_259 (q := 260) rfl ?_
      refine q_if_eq hJ (tgt := 300) dL_rules_260 (q := 263) rfl (by decide) (fun f2 => ?_) (fun f2 => ?_)
      · refine q_iconst hJ (v := 1) dL_rules_300 (q := 301) rfl (by decide) ?_
        refine q_goto hJ (tgt := 305) dL_rules_301 (by decide) ?_
        refine q_iret hM dL_rules_305 rfl (by decide) ?_
        exact ⟨rfl, rfl, _, hO1, hA1⟩
      · have hcok : ∀ k1 k2 k3 : Nat, k1 < 4 → k2 < 6 → k3 < 24 → conOk (setR A (addU A (nI j6) (nI mo) (nI j7) (nI kd) (nI j8) (nI j9) (nI j5 - 2)) (aM A + 1)) (nI (aM A)) (nI k1) (nI k2) (nI k3 - 4) := fun k1 k2 k3 a b c => con_ok (Nat.lt_succ_self _) hlt a b c
        refine q_aload_n hJ dL_rules_263 (q := 264) rfl rfl rfl ?_
        refine q_iload_n hJ dL_rules_264 (q := 265) rfl rfl ?_
        refine q_iload_n hJ dL_rules_265 (q := 266) rfl rfl ?_
        refine q_bipush hJ (v := 21) dL_rules_266 (q := 268) rfl (by decide) ?_
        refine q_ishr hJ dL_rules_268 (q := 269) rfl ?_
        refine q_iconst hJ (v := 4) dL_rules_269 (q := 270) rfl (by decide) ?_
        refine q_callS hJ dL_rules_270 (q := 273) rfl (S_low _ 4 (by decide) _ _) imL_low ln_L_8 rfl rfl rfl (Nat.le_of_ble_eq_true rfl) (by decide) (by decide) rfl rfl (fun rv gv Iv Rv hv => ?_)
        obtain ⟨k1, hk1, rfl, rfl, rfl, rfl⟩ := hv
        refine q_iload_n hJ dL_rules_273 (q := 274) rfl rfl ?_
        refine q_bipush hJ (v := 17) dL_rules_274 (q := 276) rfl (by decide) ?_
        refine q_ishr hJ dL_rules_276 (q := 277) rfl ?_
        refine q_bipush hJ (v := 6) dL_rules_277 (q := 279) rfl (by decide) ?_
        refine q_callS hJ dL_rules_279 (q := 282) rfl (S_low _ 6 (by decide) _ _) imL_low ln_L_8 rfl rfl rfl (Nat.le_of_ble_eq_true rfl) (by decide) (by decide) rfl rfl (fun rv gv Iv Rv hv => ?_)
        obtain ⟨k2, hk2, rfl, rfl, rfl, rfl⟩ := hv
        refine q_iload_n hJ dL_rules_282 (q := 283) rfl rfl ?_
        refine q_bipush hJ (v := 12) dL_rules_283 (q := 285) rfl (by decide) ?_
        refine q_ishr hJ dL_rules_285 (q := 286) rfl ?_
        refine q_bipush hJ (v := 24) dL_rules_286 (q := 288) rfl (by decide) ?_
        refine q_callS hJ dL_rules_288 (q := 291) rfl (S_low _ 24 (by decide) _ _) imL_low ln_L_8 rfl rfl rfl (Nat.le_of_ble_eq_true rfl) (by decide) (by decide) rfl rfl (fun rv gv Iv Rv hv => ?_)
        obtain ⟨k3, hk3, rfl, rfl, rfl, rfl⟩ := hv
        refine q_iconst hJ (v := 4) dL_rules_291 (q := 292) rfl (by decide) ?_
        refine q_isub hJ dL_rules_292 (q := 293) rfl ?_
        refine q_callV hJ dL_rules_293 (q := 296) rfl ((O_cond (nI (aM A)) (nI k1) (nI k2) (nI k3 - 4) hO1).valQ (con_V (hcok k1 k2 k3 hk1 hk2 hk3))) imX10_setCondition ln_L_85 ka_x (by decide) rfl rfl rfl rfl (Nat.le_of_ble_eq_true rfl) (by decide) (by decide) rfl rfl (fun rv gv Iv Rv hv => ?_)
        obtain ⟨rfl, rfl, ⟨hY2, hN2⟩, hT2⟩ := hv
        have hO2 := hY2 (hcok k1 k2 k3 hk1 hk2 hk3)
        refine q_iload_n hJ dL_rules_296 (q := 297) rfl rfl ?_
        refine q_icmp_ne hJ (tgt := 304) dL_rules_297 (q := 300) rfl (by decide) (fun f3 => absurd rfl f3) (fun _ => ?_)
        refine q_iconst hJ (v := 1) dL_rules_300 (q := 301) rfl (by decide) ?_
        refine q_goto hJ (tgt := 305) dL_rules_301 (by decide) ?_
        refine q_iret hM dL_rules_305 rfl (by decide) ?_
        exact ⟨rfl, rfl, _, hO2, (hA1.con (inR_ne (in_lt (n := 3) (by omega) (by decide) rfl)) (inR_ne (in_lt (n := 5) (by omega) (by decide) rfl)))⟩
  refine q_aload_n hJ dL_rules_0 (q := 1) rfl rfl rfl ?_
  refine q_iconst hJ (v := 1) dL_rules_1 (q := 2) rfl (by decide) ?_
  refine q_callV hJ dL_rules_2 (q := 5) rfl ((O_total 1 (by decide) (by decide) hO).val (w := nI (aM A)) rfl) imX10_total ln_L_14 ka_x (by decide) rfl rfl rfl rfl (Nat.le_of_ble_eq_true rfl) (by decide) (by decide) rfl rfl (fun rv gv Iv Rv hv => ?_)
  obtain ⟨rfl, rfl, rfl, rfl⟩ := hv
  refine q_istore_n hJ dL_rules_5 (q := 6) rfl (by decide) ?_
  refine q_iload_n hJ dL_rules_6 (q := 7) rfl rfl ?_
  refine q_iconst hJ (v := 5) dL_rules_7 (q := 8) rfl (by decide) ?_
  refine q_ishr hJ dL_rules_8 (q := 9) rfl ?_
  refine q_iconst hJ (v := 1) dL_rules_9 (q := 10) rfl (by decide) ?_
  refine q_iand hJ dL_rules_10 (q := 11) rfl ?_
  obtain ⟨mo, hmo, emo⟩ := pk_andE (v >>> ((5 : Int32) &&& 31)) (m := 1) 1 (by decide)
  rw [emo]
  have hmo2 : mo < 2 := hmo
  have hm0 : nI mo = 0 → mo = 0 := fun z => (nI_eq (b := 0) (by omega) (by decide)).mp z
  have hm1 : ¬ nI mo = 0 → mo = 1 := fun z => by
    have q : ¬ mo = 0 := fun y => z (by rw [y]; rfl)
    omega
  refine q_istore_n hJ dL_rules_11 (q := 12) rfl (by decide) ?_
  refine q_iload_n hJ dL_rules_12 (q := 13) rfl rfl ?_
  refine q_if_ne hJ (tgt := 30) dL_rules_13 (q := 16) rfl (by decide) (fun c1 => ?_) (fun c1 => ?_)
  · refine q_iload_n hJ dL_rules_30 (q := 31) rfl rfl ?_
    refine q_bipush hJ (v := 6) dL_rules_31 (q := 33) rfl (by decide) ?_
    refine q_ishr hJ dL_rules_33 (q := 34) rfl ?_
    refine q_bipush hJ (v := 13) dL_rules_34 (q := 36) rfl (by decide) ?_
    refine q_callS hJ dL_rules_36 (q := 39) rfl (S_low _ 13 (by decide) _ _) imL_low ln_L_8 rfl rfl rfl (Nat.le_of_ble_eq_true rfl) (by decide) (by decide) rfl rfl (fun rv gv Iv Rv hv => ?_)
    obtain ⟨j2, hj2, rfl, rfl, rfl, rfl⟩ := hv
    refine q_if_ne hJ (tgt := 46) dL_rules_39 (q := 42) rfl (by decide) (fun c2 => ?_) (fun c2 => ?_)
    · refine q_iconst hJ (v := 3) dL_rules_46 (q := 47) rfl (by decide) ?_
      refine q_iload_n hJ dL_rules_47 (q := 48) rfl rfl ?_
      refine q_bipush hJ (v := 6) dL_rules_48 (q := 50) rfl (by decide) ?_
      refine q_ishr hJ dL_rules_50 (q := 51) rfl ?_
      refine q_iconst hJ (v := 3) dL_rules_51 (q := 52) rfl (by decide) ?_
      refine q_callS hJ dL_rules_52 (q := 55) rfl (S_low _ 3 (by decide) _ _) imL_low ln_L_8 rfl rfl rfl (Nat.le_of_ble_eq_true rfl) (by decide) (by decide) rfl rfl (fun rv gv Iv Rv hv => ?_)
      obtain ⟨j3, hj3, rfl, rfl, rfl, rfl⟩ := hv
      refine q_iadd hJ dL_rules_55 (q := 56) rfl ?_
      rw [show (3 : Int32) + nI j3 = nI (3 + j3) from nI_add 3 j3]
      refine q_istore hJ dL_rules_56 (q := 58) rfl (by decide) ?_
      exact rest mo (3 + j3) hmo2 (by rw [show mo = 1 from hm1 c1]; exact kind_1 (Or.inr (by omega)))
    · refine q_iconst hJ (v := 1) dL_rules_42 (q := 43) rfl (by decide) ?_
      refine q_goto hJ (tgt := 56) dL_rules_43 (by decide) ?_
      refine q_istore hJ dL_rules_56 (q := 58) rfl (by decide) ?_
      exact rest mo 1 hmo2 (by rw [show mo = 1 from hm1 c1]; exact kind_1 (Or.inl rfl))
  · refine q_iload_n hJ dL_rules_16 (q := 17) rfl rfl ?_
    refine q_bipush hJ (v := 6) dL_rules_17 (q := 19) rfl (by decide) ?_
    refine q_ishr hJ dL_rules_19 (q := 20) rfl ?_
    refine q_bipush hJ (v := 12) dL_rules_20 (q := 22) rfl (by decide) ?_
    refine q_callS hJ dL_rules_22 (q := 25) rfl (S_low _ 12 (by decide) _ _) imL_low ln_L_8 rfl rfl rfl (Nat.le_of_ble_eq_true rfl) (by decide) (by decide) rfl rfl (fun rv gv Iv Rv hv => ?_)
    obtain ⟨j1, hj1, rfl, rfl, rfl, rfl⟩ := hv
    refine q_iconst hJ (v := 5) dL_rules_25 (q := 26) rfl (by decide) ?_
    refine q_idiv hJ dL_rules_26 (q := 27) rfl (by decide) ?_
    rw [show nI j1 / 5 = nI (j1 / 5) from pk_div (d := 5) (by omega) (by decide) (by decide)]
    refine q_goto hJ (tgt := 56) dL_rules_27 (by decide) ?_
    refine q_istore hJ dL_rules_56 (q := 58) rfl (by decide) ?_
    exact rest mo (j1 / 5) hmo2 (by rw [show mo = 0 from hm0 c1]; exact kind_0 (by omega))

