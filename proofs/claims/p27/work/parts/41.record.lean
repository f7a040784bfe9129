/-! THE LAW'S METHODS: the record, refusals, what came of a statement -/
theorem fir_in {A : AS} {k : Nat} (h : k < aR A) (hn : aR A ≤ 60) {w : Nat} (hw : w < 3) : firF A (nI k) (nI w) = aC A k w := by
  have h1 : ¬ nI k < 0 := nI_pos (by omega)
  have h2 : ¬ nI (aR A) ≤ nI k := nI_ge h (by omega)
  rcases (show w = 0 ∨ w = 1 ∨ w = 2 by omega) with rfl | rfl | rfl
  · rw [firF, if_neg h1, if_neg (by decide), if_neg h2, nI_clamp (by omega)]; rfl
  · rw [firF, if_neg h1, if_neg (by decide), if_neg h2, nI_clamp (by omega)]; rfl
  · rw [firF, if_neg h1, if_neg (by decide), if_neg h2, nI_clamp (by omega)]; rfl
theorem fir_n {A : AS} (hn : aR A ≤ 60) : firF A (nI (aR A)) 0 = -1006 := by
  have h1 : ¬ nI (aR A) < 0 := nI_pos (by omega)
  rw [firF, if_neg h1, if_neg (by decide), if_pos (Int32.le_refl _)]
theorem fir_3 (A : AS) : firF A 0 3 = -1002 := rfl
theorem rul_10 {A : AS} {r : Nat} (h : r < aM A) (hm : aM A ≤ 12) (hon : aU A r 10 = 1) : ruleF A (nI r) 10 = 1 := by
  rw [rul_at h hm, tell_on, hon]; rfl
set_option maxRecDepth 100000 in
set_option maxHeartbeats 400000 in
theorem S_isRecord (A : AS) (f D : Nat) (e : Nat → Nat) (I : MI) (R : MR) (hO : Ob I R A) (hMl : aM A ≤ 12) (hD : D ≤ 8) (hfb : f < 2 ^ 31) (hR : aR A = min f 60) (hC : RcG (aU A) (aM A) (aC A) (aR A) D e) : Sp 38 0 0 mL_isRecord [.ref 0, .int (nI f), .int (nI D)] g0 I R (Rt (some (.int 1)) g0 I R) := by
  refine Sp.on (by decide +kernel) rfl rfl (fun J hM => ?_)
  have hJ := hM.ok
  have hR6 : aR A ≤ 60 := by omega
  have hpv : ∀ k, k ≤ aR A → prv e k ≤ 8 := fun k hk => by
    cases k with
    | zero => exact Nat.zero_le _
    | succ k => have := (hC k (by omega)).2.2.1; show e k ≤ 8; omega
  have loop : ∀ (m k : Nat) (l6 l7 l8 : Option Value), m + k = aR A → J 0 0 13 [some (.ref 0), some (.int (nI f)), some (.int (nI D)), some (.int (nI (aR A))), some (.int (nI (prv e k))), some (.int (nI k)), l6, l7, l8] [] g0 I R := by
    intro m
    induction m with
    | zero =>
      intro k l6 l7 l8 hk
      have ek : k = aR A := by omega
      subst ek
      by_cases hf6 : f < 60
      · have hRf : aR A = f := by omega
        refine q_iload hJ dL_isRecord_13 (q := 15) rfl rfl ?_
        refine q_iload_n hJ dL_isRecord_15 (q := 16) rfl rfl ?_
        refine q_icmp_ge hJ (tgt := 125) dL_isRecord_16 (q := 19) rfl (by decide) (fun _ => ?_) (fun c1 => absurd ((nI_leI (by omega) (by omega)).mpr (by omega)) c1)
        rw [hRf]
        refine q_iload_n hJ dL_isRecord_125 (q := 126) rfl rfl ?_
        refine q_iload_n hJ dL_isRecord_126 (q := 127) rfl rfl ?_
        refine q_bipush hJ (v := 60) dL_isRecord_127 (q := 129) rfl (by decide) ?_
        refine q_icmp_ge hJ (tgt := 136) dL_isRecord_129 (q := 132) rfl (by decide) (fun c2 => absurd c2 (nle (a := f) (b := 60) hf6 (by decide))) (fun _ => ?_)
        refine q_iload_n hJ dL_isRecord_132 (q := 133) rfl rfl ?_
        refine q_goto hJ (tgt := 138) dL_isRecord_133 (by decide) ?_
        refine q_icmp_ne hJ (tgt := 169) dL_isRecord_138 (q := 141) rfl (by decide) (fun c3 => absurd rfl c3) (fun _ => ?_)
        refine q_aload_n hJ dL_isRecord_141 (q := 142) rfl rfl rfl ?_
        refine q_iload_n hJ dL_isRecord_142 (q := 143) rfl rfl ?_
        refine q_iconst hJ (v := 0) dL_isRecord_143 (q := 144) rfl (by decide) ?_
        refine q_callV hJ dL_isRecord_144 (q := 147) rfl ((O_firing (nI f) 0 hO).val (hRf ▸ fir_n hR6)) imX10_firing ln_L_33 ka_x (by decide) rfl rfl rfl rfl (Nat.le_of_ble_eq_true rfl) (by decide) (by decide) rfl rfl (fun rv gv Iv Rv hv => ?_)
        obtain ⟨rfl, rfl, rfl, rfl⟩ := hv
        refine q_sipush hJ (v := (-1006)) dL_isRecord_147 (q := 150) rfl (by decide) ?_
        refine q_icmp_ne hJ (tgt := 169) dL_isRecord_150 (q := 153) rfl (by decide) (fun c4 => absurd rfl c4) (fun _ => ?_)
        refine q_aload_n hJ dL_isRecord_153 (q := 154) rfl rfl rfl ?_
        refine q_iconst hJ (v := 0) dL_isRecord_154 (q := 155) rfl (by decide) ?_
        refine q_iconst hJ (v := 3) dL_isRecord_155 (q := 156) rfl (by decide) ?_
        refine q_callV hJ dL_isRecord_156 (q := 159) rfl ((O_firing 0 3 hO).val (fir_3 A)) imX10_firing ln_L_33 ka_x (by decide) rfl rfl rfl rfl (Nat.le_of_ble_eq_true rfl) (by decide) (by decide) rfl rfl (fun rv gv Iv Rv hv => ?_)
        obtain ⟨rfl, rfl, rfl, rfl⟩ := hv
        refine q_sipush hJ (v := (-1002)) dL_isRecord_159 (q := 162) rfl (by decide) ?_
        refine q_icmp_ne hJ (tgt := 169) dL_isRecord_162 (q := 165) rfl (by decide) (fun c5 => absurd rfl c5) (fun _ => ?_)
        refine q_iconst hJ (v := 1) dL_isRecord_165 (q := 166) rfl (by decide) ?_
        refine q_goto hJ (tgt := 170) dL_isRecord_166 (by decide) ?_
        refine q_iret hM dL_isRecord_170 rfl (by decide) ?_
        exact ⟨rfl, rfl, rfl, rfl⟩
      · have hRf : aR A = 60 := by omega
        refine q_iload hJ dL_isRecord_13 (q := 15) rfl rfl ?_
        refine q_iload_n hJ dL_isRecord_15 (q := 16) rfl rfl ?_
        refine q_icmp_ge hJ (tgt := 125) dL_isRecord_16 (q := 19) rfl (by decide) (fun _ => ?_) (fun c1 => absurd ((nI_leI (by omega) (by omega)).mpr (by omega)) c1)
        rw [hRf]
        refine q_iload_n hJ dL_isRecord_125 (q := 126) rfl rfl ?_
        refine q_iload_n hJ dL_isRecord_126 (q := 127) rfl rfl ?_
        refine q_bipush hJ (v := 60) dL_isRecord_127 (q := 129) rfl (by decide) ?_
        refine q_icmp_ge hJ (tgt := 136) dL_isRecord_129 (q := 132) rfl (by decide) (fun _ => ?_) (fun c2 => absurd ((nI_leI (a := 60) (b := f) (by decide) hfb).mpr (by omega)) c2)
        refine q_bipush hJ (v := 60) dL_isRecord_136 (q := 138) rfl (by decide) ?_
        refine q_icmp_ne hJ (tgt := 169) dL_isRecord_138 (q := 141) rfl (by decide) (fun c3 => absurd rfl c3) (fun _ => ?_)
        refine q_aload_n hJ dL_isRecord_141 (q := 142) rfl rfl rfl ?_
        refine q_iload_n hJ dL_isRecord_142 (q := 143) rfl rfl ?_
        refine q_iconst hJ (v := 0) dL_isRecord_143 (q := 144) rfl (by decide) ?_
        refine q_callV hJ dL_isRecord_144 (q := 147) rfl ((O_firing (nI 60) 0 hO).val (hRf ▸ fir_n hR6)) imX10_firing ln_L_33 ka_x (by decide) rfl rfl rfl rfl (Nat.le_of_ble_eq_true rfl) (by decide) (by decide) rfl rfl (fun rv gv Iv Rv hv => ?_)
        obtain ⟨rfl, rfl, rfl, rfl⟩ := hv
        refine q_sipush hJ (v := (-1006)) dL_isRecord_147 (q := 150) rfl (by decide) ?_
        refine q_icmp_ne hJ (tgt := 169) dL_isRecord_150 (q := 153) rfl (by decide) (fun c4 => absurd rfl c4) (fun _ => ?_)
        refine q_aload_n hJ dL_isRecord_153 (q := 154) rfl rfl rfl ?_
        refine q_iconst hJ (v := 0) dL_isRecord_154 (q := 155) rfl (by decide) ?_
        refine q_iconst hJ (v := 3) dL_isRecord_155 (q := 156) rfl (by decide) ?_
        refine q_callV hJ dL_isRecord_156 (q := 159) rfl ((O_firing 0 3 hO).val (fir_3 A)) imX10_firing ln_L_33 ka_x (by decide) rfl rfl rfl rfl (Nat.le_of_ble_eq_true rfl) (by decide) (by decide) rfl rfl (fun rv gv Iv Rv hv => ?_)
        obtain ⟨rfl, rfl, rfl, rfl⟩ := hv
        refine q_sipush hJ (v := (-1002)) dL_isRecord_159 (q := 162) rfl (by decide) ?_
        refine q_icmp_ne hJ (tgt := 169) dL_isRecord_162 (q := 165) rfl (by decide) (fun c5 => absurd rfl c5) (fun _ => ?_)
        refine q_iconst hJ (v := 1) dL_isRecord_165 (q := 166) rfl (by decide) ?_
        refine q_goto hJ (tgt := 170) dL_isRecord_166 (by decide) ?_
        refine q_iret hM dL_isRecord_170 rfl (by decide) ?_
        exact ⟨rfl, rfl, rfl, rfl⟩
    | succ m ih =>
      intro k l6 l7 l8 hk
      have hk9 : k < aR A := by omega
      have hp9 := hpv k (by omega)
      obtain ⟨z1, z2, z3, z4, ⟨r9, hr9, zr, hon9⟩, q9, hq9, zq⟩ := hC k hk9
      refine q_iload hJ dL_isRecord_13 (q := 15) rfl rfl ?_
      refine q_iload_n hJ dL_isRecord_15 (q := 16) rfl rfl ?_
      refine q_icmp_ge hJ (tgt := 125) dL_isRecord_16 (q := 19) rfl (by decide) (fun c1 => absurd c1 (nle (by omega) (by omega))) (fun _ => ?_)
      refine q_iload hJ dL_isRecord_19 (q := 21) rfl rfl ?_
      refine q_bipush hJ (v := 60) dL_isRecord_21 (q := 23) rfl (by decide) ?_
      refine q_icmp_ge hJ (tgt := 125) dL_isRecord_23 (q := 26) rfl (by decide) (fun c2 => absurd c2 (nle (a := k) (b := 60) (by omega) (by decide))) (fun _ => ?_)
      refine q_aload_n hJ dL_isRecord_26 (q := 27) rfl rfl rfl ?_
      refine q_iload hJ dL_isRecord_27 (q := 29) rfl rfl ?_
      refine q_iconst hJ (v := 1) dL_isRecord_29 (q := 30) rfl (by decide) ?_
      refine q_callV hJ dL_isRecord_30 (q := 33) rfl ((O_firing (nI k) 1 hO).val ((fir_in hk9 hR6 (w := 1) (by decide)).trans z1)) imX10_firing ln_L_33 ka_x (by decide) rfl rfl rfl rfl (Nat.le_of_ble_eq_true rfl) (by decide) (by decide) rfl rfl (fun rv gv Iv Rv hv => ?_)
      obtain ⟨rfl, rfl, rfl, rfl⟩ := hv
      refine q_istore hJ dL_isRecord_33 (q := 35) rfl (by decide) ?_
      refine q_aload_n hJ dL_isRecord_35 (q := 36) rfl rfl rfl ?_
      refine q_iload hJ dL_isRecord_36 (q := 38) rfl rfl ?_
      refine q_iconst hJ (v := 0) dL_isRecord_38 (q := 39) rfl (by decide) ?_
      refine q_callV hJ dL_isRecord_39 (q := 42) rfl ((O_firing (nI k) 0 hO).val ((fir_in hk9 hR6 (w := 0) (by decide)).trans zr)) imX10_firing ln_L_33 ka_x (by decide) rfl rfl rfl rfl (Nat.le_of_ble_eq_true rfl) (by decide) (by decide) rfl rfl (fun rv gv Iv Rv hv => ?_)
      obtain ⟨rfl, rfl, rfl, rfl⟩ := hv
      refine q_istore hJ dL_isRecord_42 (q := 44) rfl (by decide) ?_
      refine q_aload_n hJ dL_isRecord_44 (q := 45) rfl rfl rfl ?_
      refine q_iload hJ dL_isRecord_45 (q := 47) rfl rfl ?_
      refine q_iconst hJ (v := 2) dL_isRecord_47 (q := 48) rfl (by decide) ?_
      refine q_callV hJ dL_isRecord_48 (q := 51) rfl ((O_firing (nI k) 2 hO).val ((fir_in hk9 hR6 (w := 2) (by decide)).trans zq)) imX10_firing ln_L_33 ka_x (by decide) rfl rfl rfl rfl (Nat.le_of_ble_eq_true rfl) (by decide) (by decide) rfl rfl (fun rv gv Iv Rv hv => ?_)
      obtain ⟨rfl, rfl, rfl, rfl⟩ := hv
      refine q_istore hJ dL_isRecord_51 (q := 53) rfl (by decide) ?_
      refine q_iload hJ dL_isRecord_53 (q := 55) rfl rfl ?_
      refine q_iconst hJ (v := 1) dL_isRecord_55 (q := 56) rfl (by decide) ?_
      refine q_icmp_lt hJ (tgt := 113) dL_isRecord_56 (q := 59) rfl (by decide) (fun d1 => absurd d1 (nI_nlt (a := e k) (b := 1) z2 (by omega))) (fun _ => ?_)
      refine q_iload hJ dL_isRecord_59 (q := 61) rfl rfl ?_
      refine q_iload_n hJ dL_isRecord_61 (q := 62) rfl rfl ?_
      refine q_icmp_gt hJ (tgt := 113) dL_isRecord_62 (q := 65) rfl (by decide) (fun d2 => absurd d2 (nI_nlt (a := D) (b := e k) z3 (by omega))) (fun _ => ?_)
      refine q_iload hJ dL_isRecord_65 (q := 67) rfl rfl ?_
      refine q_iload hJ dL_isRecord_67 (q := 69) rfl rfl ?_
      refine q_iconst hJ (v := 1) dL_isRecord_69 (q := 70) rfl (by decide) ?_
      refine q_iadd hJ dL_isRecord_70 (q := 71) rfl ?_
      rw [nI_1]
      refine q_icmp_gt hJ (tgt := 113) dL_isRecord_71 (q := 74) rfl (by decide) (fun d3 => absurd d3 (nI_nlt (a := prv e k + 1) (b := e k) z4 (by omega))) (fun _ => ?_)
      refine q_iload hJ dL_isRecord_74 (q := 76) rfl rfl ?_
      refine q_if_lt hJ (tgt := 113) dL_isRecord_76 (q := 79) rfl (by decide) (fun d4 => absurd d4 (nI_pos (by omega))) (fun _ => ?_)
      refine q_iload hJ dL_isRecord_79 (q := 81) rfl rfl ?_
      refine q_aload_n hJ dL_isRecord_81 (q := 82) rfl rfl rfl ?_
      refine q_iconst hJ (v := 1) dL_isRecord_82 (q := 83) rfl (by decide) ?_
      refine q_callV hJ dL_isRecord_83 (q := 86) rfl (O_total 1 (by decide) (by decide) hO) imX10_total ln_L_14 ka_x (by decide) rfl rfl rfl rfl (Nat.le_of_ble_eq_true rfl) (by decide) (by decide) rfl rfl (fun rv gv Iv Rv hv => ?_)
      obtain ⟨rfl, rfl, rfl, rfl⟩ := hv
      refine q_icmp_ge hJ (tgt := 113) dL_isRecord_86 (q := 89) rfl (by decide) (fun d5 => absurd d5 (nle hr9 (by omega))) (fun _ => ?_)
      refine q_aload_n hJ dL_isRecord_89 (q := 90) rfl rfl rfl ?_
      refine q_iload hJ dL_isRecord_90 (q := 92) rfl rfl ?_
      refine q_bipush hJ (v := 10) dL_isRecord_92 (q := 94) rfl (by decide) ?_
      refine q_callV hJ dL_isRecord_94 (q := 97) rfl ((O_rule (nI r9) 10 hO).val (rul_10 hr9 hMl hon9)) imX10_rule ln_L_26 ka_x (by decide) rfl rfl rfl rfl (Nat.le_of_ble_eq_true rfl) (by decide) (by decide) rfl rfl (fun rv gv Iv Rv hv => ?_)
      obtain ⟨rfl, rfl, rfl, rfl⟩ := hv
      refine q_iconst hJ (v := 1) dL_isRecord_97 (q := 98) rfl (by decide) ?_
      refine q_icmp_ne hJ (tgt := 113) dL_isRecord_98 (q := 101) rfl (by decide) (fun d6 => absurd rfl d6) (fun _ => ?_)
      refine q_iload hJ dL_isRecord_101 (q := 103) rfl rfl ?_
      refine q_if_lt hJ (tgt := 113) dL_isRecord_103 (q := 106) rfl (by decide) (fun d7 => absurd d7 (nI_pos (by omega))) (fun _ => ?_)
      refine q_iload hJ dL_isRecord_106 (q := 108) rfl rfl ?_
      refine q_bipush hJ (v := 99) dL_isRecord_108 (q := 110) rfl (by decide) ?_
      refine q_icmp_le hJ (tgt := 115) dL_isRecord_110 (q := 113) rfl (by decide) (fun _ => ?_) (fun d8 => absurd (nI_le (a := q9) (b := 99) (by omega) (by decide)) d8)
      refine q_iload hJ dL_isRecord_115 (q := 117) rfl rfl ?_
      refine q_istore hJ dL_isRecord_117 (q := 119) rfl (by decide) ?_
      refine q_iinc hJ dL_isRecord_119 (q := 122) rfl (by decide) rfl (nI_1 k) ?_
      refine q_goto hJ (tgt := 13) dL_isRecord_122 (by decide) ?_
      exact ih (k + 1) _ _ _ (by omega)
  refine q_aload_n hJ dL_isRecord_0 (q := 1) rfl rfl rfl ?_
  refine q_bipush hJ (v := 9) dL_isRecord_1 (q := 3) rfl (by decide) ?_
  refine q_callV hJ dL_isRecord_3 (q := 6) rfl (O_total 9 (by decide) (by decide) hO) imX10_total ln_L_14 ka_x (by decide) rfl rfl rfl rfl (Nat.le_of_ble_eq_true rfl) (by decide) (by decide) rfl rfl (fun rv gv Iv Rv hv => ?_)
  obtain ⟨rfl, rfl, rfl, rfl⟩ := hv
  refine q_istore_n hJ dL_isRecord_6 (q := 7) rfl (by decide) ?_
  refine q_iconst hJ (v := 0) dL_isRecord_7 (q := 8) rfl (by decide) ?_
  refine q_istore hJ dL_isRecord_8 (q := 10) rfl (by decide) ?_
  refine q_iconst hJ (v := 0) dL_isRecord_10 (q := 11) rfl (by decide) ?_
  refine q_istore hJ dL_isRecord_11 (q := 13) rfl (by decide) ?_
  exact loop (aR A) 0 none none none (by omega)

def T5 (I : MI) (X : XS) : Prop := I 317 0 = xR X ∧ I 317 1 = xW X ∧ I 317 2 = nI (xO X) ∧ I 317 3 = xF X ∧ I 317 4 = xD X
def T4 (I : MI) (A : AS) : Prop := I 317 5 = aS A 2 ∧ I 317 6 = aS A 3 ∧ I 317 7 = aS A 4 ∧ I 317 8 = aS A 5
theorem tell_3 (u : Nat → Int32) : tellF u 3 = u 3 := rfl
theorem knd_2 {u : Nat → Int32} (h : Knd u) : ¬ u 3 ≤ 2 := by
  rcases h with h | h | h <;> rw [h] <;> decide
set_option maxRecDepth 100000 in
set_option maxHeartbeats 400000 in
theorem S_isRefused (A : AS) (X : XS) (G r f D : Nat) (I : MI) (R : MR) (hO : Ob I R A) (hMl : aM A ≤ 12) (hT : T5 I X) (hr : r < aM A) (h1 : xW X = nI r) (hon : aU A r 10 = 1) (hf0 : 0 < f) (hfb : f < 2 ^ 31) (hF : xF X = nI f) (hD : xD X = nI D) (hg3 : stTell A 3 = nI G) (hy : (xR X = 1 ∧ aU A r 3 = 1) ∨ (xR X = 2 ∧ Knd (aU A r) ∧ D = G) ∨ (xR X = 3 ∧ Knd (aU A r) ∧ xO X = 100)) : Sp 38 0 0 mL_isRefused [.ref 0, .ref 317] g0 I R (Rt (some (.int 1)) g0 I R) := by
  refine Sp.on (by decide +kernel) rfl rfl (fun J hM => ?_)
  have hJ := hM.ok
  obtain ⟨ht0, ht1, ht2, ht3, ht4⟩ := hT
  rw [h1] at ht1
  rw [hF] at ht3
  rw [hD] at ht4
  rcases hy with ⟨hy, hk9⟩ | ⟨hy, hk9, hg9⟩ | ⟨hy, hk9, hx9⟩
  · rw [hy] at ht0
    refine q_aload_n hJ dL_isRefused_0 (q := 1) rfl rfl rfl ?_
    refine q_aload_n hJ dL_isRefused_1 (q := 2) rfl rfl rfl ?_
    refine q_iconst hJ (v := 1) dL_isRefused_2 (q := 3) rfl (by decide) ?_
    refine q_iald hJ dL_isRefused_3 (q := 4) rfl ka_t (ix_t (j := 1) (by decide)) ht1 ?_
    refine q_iconst hJ (v := 3) dL_isRefused_4 (q := 5) rfl (by decide) ?_
    refine q_callV hJ dL_isRefused_5 (q := 8) rfl ((O_rule (nI r) 3 hO).val (rul_at hr hMl 3)) imX10_rule ln_L_26 ka_x (by decide) rfl rfl rfl rfl (Nat.le_of_ble_eq_true rfl) (by decide) (by decide) rfl rfl (fun rv gv Iv Rv hv => ?_)
    obtain ⟨rfl, rfl, rfl, rfl⟩ := hv
    refine q_istore_n hJ dL_isRefused_8 (q := 9) rfl (by decide) ?_
    refine q_aload_n hJ dL_isRefused_9 (q := 10) rfl rfl rfl ?_
    refine q_aload_n hJ dL_isRefused_10 (q := 11) rfl rfl rfl ?_
    refine q_iconst hJ (v := 1) dL_isRefused_11 (q := 12) rfl (by decide) ?_
    refine q_iald hJ dL_isRefused_12 (q := 13) rfl ka_t (ix_t (j := 1) (by decide)) ht1 ?_
    refine q_bipush hJ (v := 10) dL_isRefused_13 (q := 15) rfl (by decide) ?_
    refine q_callV hJ dL_isRefused_15 (q := 18) rfl ((O_rule (nI r) 10 hO).val (rul_10 hr hMl hon)) imX10_rule ln_L_26 ka_x (by decide) rfl rfl rfl rfl (Nat.le_of_ble_eq_true rfl) (by decide) (by decide) rfl rfl (fun rv gv Iv Rv hv => ?_)
    obtain ⟨rfl, rfl, rfl, rfl⟩ := hv
    refine q_iconst hJ (v := 1) dL_isRefused_18 (q := 19) rfl (by decide) ?_
    refine q_icmp_ne hJ (tgt := 32) dL_isRefused_19 (q := 22) rfl (by decide) (fun c1 => absurd rfl c1) (fun _ => ?_)
    refine q_aload_n hJ dL_isRefused_22 (q := 23) rfl rfl rfl ?_
    refine q_iconst hJ (v := 3) dL_isRefused_23 (q := 24) rfl (by decide) ?_
    refine q_iald hJ dL_isRefused_24 (q := 25) rfl ka_t (ix_t (j := 3) (by decide)) ht3 ?_
    refine q_if_le hJ (tgt := 32) dL_isRefused_25 (q := 28) rfl (by decide) (fun c2 => absurd c2 (nI_nle hf0 hfb)) (fun _ => ?_)
    refine q_iconst hJ (v := 1) dL_isRefused_28 (q := 29) rfl (by decide) ?_
    refine q_goto hJ (tgt := 33) dL_isRefused_29 (by decide) ?_
    refine q_istore_n hJ dL_isRefused_33 (q := 34) rfl (by decide) ?_
    refine q_iload_n hJ dL_isRefused_34 (q := 35) rfl rfl ?_
    refine q_if_eq hJ (tgt := 102) dL_isRefused_35 (q := 38) rfl (by decide) (fun c3 => absurd c3 (by decide)) (fun _ => ?_)
    refine q_aload_n hJ dL_isRefused_38 (q := 39) rfl rfl rfl ?_
    refine q_iconst hJ (v := 0) dL_isRefused_39 (q := 40) rfl (by decide) ?_
    refine q_iald hJ dL_isRefused_40 (q := 41) rfl ka_t (ix_t (j := 0) (by decide)) ht0 ?_
    refine q_iconst hJ (v := 1) dL_isRefused_41 (q := 42) rfl (by decide) ?_
    refine q_icmp_ne hJ (tgt := 53) dL_isRefused_42 (q := 45) rfl (by decide) (fun c4 => absurd rfl c4) (fun _ => ?_)
    refine q_iload_n hJ dL_isRefused_45 (q := 46) rfl rfl ?_
    refine q_iconst hJ (v := 1) dL_isRefused_46 (q := 47) rfl (by decide) ?_
    rw [tell_3]
    refine q_icmp_ne hJ (tgt := 102) dL_isRefused_47 (q := 50) rfl (by decide) (fun c5 => absurd hk9 c5) (fun _ => ?_)
    refine q_goto hJ (tgt := 58) dL_isRefused_50 (by decide) ?_
    refine q_aload_n hJ dL_isRefused_58 (q := 59) rfl rfl rfl ?_
    refine q_iconst hJ (v := 0) dL_isRefused_59 (q := 60) rfl (by decide) ?_
    refine q_iald hJ dL_isRefused_60 (q := 61) rfl ka_t (ix_t (j := 0) (by decide)) ht0 ?_
    refine q_iconst hJ (v := 2) dL_isRefused_61 (q := 62) rfl (by decide) ?_
    refine q_icmp_ne hJ (tgt := 76) dL_isRefused_62 (q := 65) rfl (by decide) (fun _ => ?_) (fun c6 => absurd c6 (by decide))
    refine q_aload_n hJ dL_isRefused_76 (q := 77) rfl rfl rfl ?_
    refine q_iconst hJ (v := 0) dL_isRefused_77 (q := 78) rfl (by decide) ?_
    refine q_iald hJ dL_isRefused_78 (q := 79) rfl ka_t (ix_t (j := 0) (by decide)) ht0 ?_
    refine q_iconst hJ (v := 3) dL_isRefused_79 (q := 80) rfl (by decide) ?_
    refine q_icmp_ne hJ (tgt := 91) dL_isRefused_80 (q := 83) rfl (by decide) (fun _ => ?_) (fun c8 => absurd c8 (by decide))
    refine q_aload_n hJ dL_isRefused_91 (q := 92) rfl rfl rfl ?_
    refine q_iconst hJ (v := 0) dL_isRefused_92 (q := 93) rfl (by decide) ?_
    refine q_iald hJ dL_isRefused_93 (q := 94) rfl ka_t (ix_t (j := 0) (by decide)) ht0 ?_
    refine q_iconst hJ (v := 4) dL_isRefused_94 (q := 95) rfl (by decide) ?_
    refine q_icmp_ge hJ (tgt := 102) dL_isRefused_95 (q := 98) rfl (by decide) (fun e1 => absurd e1 (by decide)) (fun _ => ?_)
    refine q_iconst hJ (v := 1) dL_isRefused_98 (q := 99) rfl (by decide) ?_
    refine q_goto hJ (tgt := 103) dL_isRefused_99 (by decide) ?_
    refine q_iret hM dL_isRefused_103 rfl (by decide) ?_
    exact ⟨rfl, rfl, rfl, rfl⟩
  · rw [hy] at ht0
    rw [hg9] at ht4
    refine q_aload_n hJ dL_isRefused_0 (q := 1) rfl rfl rfl ?_
    refine q_aload_n hJ dL_isRefused_1 (q := 2) rfl rfl rfl ?_
    refine q_iconst hJ (v := 1) dL_isRefused_2 (q := 3) rfl (by decide) ?_
    refine q_iald hJ dL_isRefused_3 (q := 4) rfl ka_t (ix_t (j := 1) (by decide)) ht1 ?_
    refine q_iconst hJ (v := 3) dL_isRefused_4 (q := 5) rfl (by decide) ?_
    refine q_callV hJ dL_isRefused_5 (q := 8) rfl ((O_rule (nI r) 3 hO).val (rul_at hr hMl 3)) imX10_rule ln_L_26 ka_x (by decide) rfl rfl rfl rfl (Nat.le_of_ble_eq_true rfl) (by decide) (by decide) rfl rfl (fun rv gv Iv Rv hv => ?_)
    obtain ⟨rfl, rfl, rfl, rfl⟩ := hv
    refine q_istore_n hJ dL_isRefused_8 (q := 9) rfl (by decide) ?_
    refine q_aload_n hJ dL_isRefused_9 (q := 10) rfl rfl rfl ?_
    refine q_aload_n hJ dL_isRefused_10 (q := 11) rfl rfl rfl ?_
    refine q_iconst hJ (v := 1) dL_isRefused_11 (q := 12) rfl (by decide) ?_
    refine q_iald hJ dL_isRefused_12 (q := 13) rfl ka_t (ix_t (j := 1) (by decide)) ht1 ?_
    refine q_bipush hJ (v := 10) dL_isRefused_13 (q := 15) rfl (by decide) ?_
    refine q_callV hJ dL_isRefused_15 (q := 18) rfl ((O_rule (nI r) 10 hO).val (rul_10 hr hMl hon)) imX10_rule ln_L_26 ka_x (by decide) rfl rfl rfl rfl (Nat.le_of_ble_eq_true rfl) (by decide) (by decide) rfl rfl (fun rv gv Iv Rv hv => ?_)
    obtain ⟨rfl, rfl, rfl, rfl⟩ := hv
    refine q_iconst hJ (v := 1) dL_isRefused_18 (q := 19) rfl (by decide) ?_
    refine q_icmp_ne hJ (tgt := 32) dL_isRefused_19 (q := 22) rfl (by decide) (fun c1 => absurd rfl c1) (fun _ => ?_)
    refine q_aload_n hJ dL_isRefused_22 (q := 23) rfl rfl rfl ?_
    refine q_iconst hJ (v := 3) dL_isRefused_23 (q := 24) rfl (by decide) ?_
    refine q_iald hJ dL_isRefused_24 (q := 25) rfl ka_t (ix_t (j := 3) (by decide)) ht3 ?_
    refine q_if_le hJ (tgt := 32) dL_isRefused_25 (q := 28) rfl (by decide) (fun c2 => absurd c2 (nI_nle hf0 hfb)) (fun _ => ?_)
    refine q_iconst hJ (v := 1) dL_isRefused_28 (q := 29) rfl (by decide) ?_
    refine q_goto hJ (tgt := 33) dL_isRefused_29 (by decide) ?_
    refine q_istore_n hJ dL_isRefused_33 (q := 34) rfl (by decide) ?_
    refine q_iload_n hJ dL_isRefused_34 (q := 35) rfl rfl ?_
    refine q_if_eq hJ (tgt := 102) dL_isRefused_35 (q := 38) rfl (by decide) (fun c3 => absurd c3 (by decide)) (fun _ => ?_)
    refine q_aload_n hJ dL_isRefused_38 (q := 39) rfl rfl rfl ?_
    refine q_iconst hJ (v := 0) dL_isRefused_39 (q := 40) rfl (by decide) ?_
    refine q_iald hJ dL_isRefused_40 (q := 41) rfl ka_t (ix_t (j := 0) (by decide)) ht0 ?_
    refine q_iconst hJ (v := 1) dL_isRefused_41 (q := 42) rfl (by decide) ?_
    refine q_icmp_ne hJ (tgt := 53) dL_isRefused_42 (q := 45) rfl (by decide) (fun _ => ?_) (fun c4 => absurd c4 (by decide))
    refine q_iload_n hJ dL_isRefused_53 (q := 54) rfl rfl ?_
    refine q_iconst hJ (v := 2) dL_isRefused_54 (q := 55) rfl (by decide) ?_
    rw [tell_3]
    refine q_icmp_le hJ (tgt := 102) dL_isRefused_55 (q := 58) rfl (by decide) (fun c5 => absurd c5 (knd_2 hk9)) (fun _ => ?_)
    refine q_aload_n hJ dL_isRefused_58 (q := 59) rfl rfl rfl ?_
    refine q_iconst hJ (v := 0) dL_isRefused_59 (q := 60) rfl (by decide) ?_
    refine q_iald hJ dL_isRefused_60 (q := 61) rfl ka_t (ix_t (j := 0) (by decide)) ht0 ?_
    refine q_iconst hJ (v := 2) dL_isRefused_61 (q := 62) rfl (by decide) ?_
    refine q_icmp_ne hJ (tgt := 76) dL_isRefused_62 (q := 65) rfl (by decide) (fun c6 => absurd rfl c6) (fun _ => ?_)
    refine q_aload_n hJ dL_isRefused_65 (q := 66) rfl rfl rfl ?_
    refine q_iconst hJ (v := 4) dL_isRefused_66 (q := 67) rfl (by decide) ?_
    refine q_iald hJ dL_isRefused_67 (q := 68) rfl ka_t (ix_t (j := 4) (by decide)) ht4 ?_
    refine q_aload_n hJ dL_isRefused_68 (q := 69) rfl rfl rfl ?_
    refine q_iconst hJ (v := 3) dL_isRefused_69 (q := 70) rfl (by decide) ?_
    refine q_callV hJ dL_isRefused_70 (q := 73) rfl ((O_total 3 (by decide) (by decide) hO).val hg3) imX10_total ln_L_14 ka_x (by decide) rfl rfl rfl rfl (Nat.le_of_ble_eq_true rfl) (by decide) (by decide) rfl rfl (fun rv gv Iv Rv hv => ?_)
    obtain ⟨rfl, rfl, rfl, rfl⟩ := hv
    refine q_icmp_ne hJ (tgt := 102) dL_isRefused_73 (q := 76) rfl (by decide) (fun c7 => absurd rfl c7) (fun _ => ?_)
    refine q_aload_n hJ dL_isRefused_76 (q := 77) rfl rfl rfl ?_
    refine q_iconst hJ (v := 0) dL_isRefused_77 (q := 78) rfl (by decide) ?_
    refine q_iald hJ dL_isRefused_78 (q := 79) rfl ka_t (ix_t (j := 0) (by decide)) ht0 ?_
    refine q_iconst hJ (v := 3) dL_isRefused_79 (q := 80) rfl (by decide) ?_
    refine q_icmp_ne hJ (tgt := 91) dL_isRefused_80 (q := 83) rfl (by decide) (fun _ => ?_) (fun c8 => absurd c8 (by decide))
    refine q_aload_n hJ dL_isRefused_91 (q := 92) rfl rfl rfl ?_
    refine q_iconst hJ (v := 0) dL_isRefused_92 (q := 93) rfl (by decide) ?_
    refine q_iald hJ dL_isRefused_93 (q := 94) rfl ka_t (ix_t (j := 0) (by decide)) ht0 ?_
    refine q_iconst hJ (v := 4) dL_isRefused_94 (q := 95) rfl (by decide) ?_
    refine q_icmp_ge hJ (tgt := 102) dL_isRefused_95 (q := 98) rfl (by decide) (fun e1 => absurd e1 (by decide)) (fun _ => ?_)
    refine q_iconst hJ (v := 1) dL_isRefused_98 (q := 99) rfl (by decide) ?_
    refine q_goto hJ (tgt := 103) dL_isRefused_99 (by decide) ?_
    refine q_iret hM dL_isRefused_103 rfl (by decide) ?_
    exact ⟨rfl, rfl, rfl, rfl⟩
  · rw [hy] at ht0
    rw [hx9] at ht2
    refine q_aload_n hJ dL_isRefused_0 (q := 1) rfl rfl rfl ?_
    refine q_aload_n hJ dL_isRefused_1 (q := 2) rfl rfl rfl ?_
    refine q_iconst hJ (v := 1) dL_isRefused_2 (q := 3) rfl (by decide) ?_
    refine q_iald hJ dL_isRefused_3 (q := 4) rfl ka_t (ix_t (j := 1) (by decide)) ht1 ?_
    refine q_iconst hJ (v := 3) dL_isRefused_4 (q := 5) rfl (by decide) ?_
    refine q_callV hJ dL_isRefused_5 (q := 8) rfl ((O_rule (nI r) 3 hO).val (rul_at hr hMl 3)) imX10_rule ln_L_26 ka_x (by decide) rfl rfl rfl rfl (Nat.le_of_ble_eq_true rfl) (by decide) (by decide) rfl rfl (fun rv gv Iv Rv hv => ?_)
    obtain ⟨rfl, rfl, rfl, rfl⟩ := hv
    refine q_istore_n hJ dL_isRefused_8 (q := 9) rfl (by decide) ?_
    refine q_aload_n hJ dL_isRefused_9 (q := 10) rfl rfl rfl ?_
    refine q_aload_n hJ dL_isRefused_10 (q := 11) rfl rfl rfl ?_
    refine q_iconst hJ (v := 1) dL_isRefused_11 (q := 12) rfl (by decide) ?_
    refine q_iald hJ dL_isRefused_12 (q := 13) rfl ka_t (ix_t (j := 1) (by decide)) ht1 ?_
    refine q_bipush hJ (v := 10) dL_isRefused_13 (q := 15) rfl (by decide) ?_
    refine q_callV hJ dL_isRefused_15 (q := 18) rfl ((O_rule (nI r) 10 hO).val (rul_10 hr hMl hon)) imX10_rule ln_L_26 ka_x (by decide) rfl rfl rfl rfl (Nat.le_of_ble_eq_true rfl) (by decide) (by decide) rfl rfl (fun rv gv Iv Rv hv => ?_)
    obtain ⟨rfl, rfl, rfl, rfl⟩ := hv
    refine q_iconst hJ (v := 1) dL_isRefused_18 (q := 19) rfl (by decide) ?_
    refine q_icmp_ne hJ (tgt := 32) dL_isRefused_19 (q := 22) rfl (by decide) (fun c1 => absurd rfl c1) (fun _ => ?_)
    refine q_aload_n hJ dL_isRefused_22 (q := 23) rfl rfl rfl ?_
    refine q_iconst hJ (v := 3) dL_isRefused_23 (q := 24) rfl (by decide) ?_
    refine q_iald hJ dL_isRefused_24 (q := 25) rfl ka_t (ix_t (j := 3) (by decide)) ht3 ?_
    refine q_if_le hJ (tgt := 32) dL_isRefused_25 (q := 28) rfl (by decide) (fun c2 => absurd c2 (nI_nle hf0 hfb)) (fun _ => ?_)
    refine q_iconst hJ (v := 1) dL_isRefused_28 (q := 29) rfl (by decide) ?_
    refine q_goto hJ (tgt := 33) dL_isRefused_29 (by decide) ?_
    refine q_istore_n hJ dL_isRefused_33 (q := 34) rfl (by decide) ?_
    refine q_iload_n hJ dL_isRefused_34 (q := 35) rfl rfl ?_
    refine q_if_eq hJ (tgt := 102) dL_isRefused_35 (q := 38) rfl (by decide) (fun c3 => absurd c3 (by decide)) (fun _ => ?_)
    refine q_aload_n hJ dL_isRefused_38 (q := 39) rfl rfl rfl ?_
    refine q_iconst hJ (v := 0) dL_isRefused_39 (q := 40) rfl (by decide) ?_
    refine q_iald hJ dL_isRefused_40 (q := 41) rfl ka_t (ix_t (j := 0) (by decide)) ht0 ?_
    refine q_iconst hJ (v := 1) dL_isRefused_41 (q := 42) rfl (by decide) ?_
    refine q_icmp_ne hJ (tgt := 53) dL_isRefused_42 (q := 45) rfl (by decide) (fun _ => ?_) (fun c4 => absurd c4 (by decide))
    refine q_iload_n hJ dL_isRefused_53 (q := 54) rfl rfl ?_
    refine q_iconst hJ (v := 2) dL_isRefused_54 (q := 55) rfl (by decide) ?_
    rw [tell_3]
    refine q_icmp_le hJ (tgt := 102) dL_isRefused_55 (q := 58) rfl (by decide) (fun c5 => absurd c5 (knd_2 hk9)) (fun _ => ?_)
    refine q_aload_n hJ dL_isRefused_58 (q := 59) rfl rfl rfl ?_
    refine q_iconst hJ (v := 0) dL_isRefused_59 (q := 60) rfl (by decide) ?_
    refine q_iald hJ dL_isRefused_60 (q := 61) rfl ka_t (ix_t (j := 0) (by decide)) ht0 ?_
    refine q_iconst hJ (v := 2) dL_isRefused_61 (q := 62) rfl (by decide) ?_
    refine q_icmp_ne hJ (tgt := 76) dL_isRefused_62 (q := 65) rfl (by decide) (fun _ => ?_) (fun c6 => absurd c6 (by decide))
    refine q_aload_n hJ dL_isRefused_76 (q := 77) rfl rfl rfl ?_
    refine q_iconst hJ (v := 0) dL_isRefused_77 (q := 78) rfl (by decide) ?_
    refine q_iald hJ dL_isRefused_78 (q := 79) rfl ka_t (ix_t (j := 0) (by decide)) ht0 ?_
    refine q_iconst hJ (v := 3) dL_isRefused_79 (q := 80) rfl (by decide) ?_
    refine q_icmp_ne hJ (tgt := 91) dL_isRefused_80 (q := 83) rfl (by decide) (fun c8 => absurd rfl c8) (fun _ => ?_)
    refine q_aload_n hJ dL_isRefused_83 (q := 84) rfl rfl rfl ?_
    refine q_iconst hJ (v := 2) dL_isRefused_84 (q := 85) rfl (by decide) ?_
    refine q_iald hJ dL_isRefused_85 (q := 86) rfl ka_t (ix_t (j := 2) (by decide)) ht2 ?_
    refine q_bipush hJ (v := 100) dL_isRefused_86 (q := 88) rfl (by decide) ?_
    refine q_icmp_ne hJ (tgt := 102) dL_isRefused_88 (q := 91) rfl (by decide) (fun c9 => absurd rfl c9) (fun _ => ?_)
    refine q_aload_n hJ dL_isRefused_91 (q := 92) rfl rfl rfl ?_
    refine q_iconst hJ (v := 0) dL_isRefused_92 (q := 93) rfl (by decide) ?_
    refine q_iald hJ dL_isRefused_93 (q := 94) rfl ka_t (ix_t (j := 0) (by decide)) ht0 ?_
    refine q_iconst hJ (v := 4) dL_isRefused_94 (q := 95) rfl (by decide) ?_
    refine q_icmp_ge hJ (tgt := 102) dL_isRefused_95 (q := 98) rfl (by decide) (fun e1 => absurd e1 (by decide)) (fun _ => ?_)
    refine q_iconst hJ (v := 1) dL_isRefused_98 (q := 99) rfl (by decide) ?_
    refine q_goto hJ (tgt := 103) dL_isRefused_99 (by decide) ?_
    refine q_iret hM dL_isRefused_103 rfl (by decide) ?_
    exact ⟨rfl, rfl, rfl, rfl⟩

