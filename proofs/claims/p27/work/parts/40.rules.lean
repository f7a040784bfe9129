/-! THE LAW'S METHODS: the rules -/
abbrev pK (A : AS) (k t : Nat) : Prop := aU A (odA A t) 0 = nI (k / 2) ∧ aU A (odA A t) 1 = nI (k % 2)
def cnt (A : AS) (n k : Nat) : Nat := cnP (fun t => pK A k t) n
def pl (A : AS) : Nat → Nat
  | 0 => 0
  | k + 1 => pl A k + cnt A (aM A) k
theorem od_lt {A : AS} {t : Nat} (h : t < aM A) : odA A t < aM A := osrt_lt _ _ _ h
theorem rul_at {A : AS} {r : Nat} (h : r < aM A) (hm : aM A ≤ 12) (w : Int32) : ruleF A (nI r) w = tellF (aU A r) w := by
  have h1 : ¬ nI r < 0 := nI_pos (by omega)
  have h2 : ¬ nI (aM A) ≤ nI r := nI_ge h (by omega)
  rw [ruleF, if_neg h1, if_neg h2, nI_clamp (by omega)]
theorem rul_n {A : AS} {r : Nat} (h : aM A ≤ r) (hr : r < 1000) (w : Int32) : ruleF A (nI r) w = -1001 := by
  have h1 : ¬ nI r < 0 := nI_pos (by omega)
  rw [ruleF, if_neg h1, if_pos ((nI_leI (by omega) (by omega)).mpr h)]
theorem tell_on (u : Nat → Int32) : tellF u 10 = nI (if u 10 = 0 then 0 else 1) := by
  show (if u 10 = 0 then (0 : Int32) else 1) = _
  by_cases h : u 10 = 0
  · rw [if_pos h, if_pos h]; rfl
  · rw [if_neg h, if_neg h]; rfl
theorem cnP_hit {p : Nat → Prop} [DecidablePred p] {n c : Nat} (h : c < cnP p n) : ∃ t, t < n ∧ p t ∧ cnP p t = c := by
  induction n with
  | zero => exact absurd h (Nat.not_lt_zero _)
  | succ n ih =>
    by_cases h1 : c < cnP p n
    · obtain ⟨t, a, b⟩ := ih h1
      exact ⟨t, by omega, b⟩
    · have e : cnP p (n + 1) = cnP p n + (if p n then 1 else 0) := rfl
      by_cases hp : p n
      · rw [if_pos hp] at e
        exact ⟨n, by omega, hp, by omega⟩
      · rw [if_neg hp] at e
        omega
theorem in_k {k : Nat} (hk : k < 6) : ¬ inR (nI (k / 2)) 0 2 = 0 ∧ ¬ inR (nI (k % 2)) 0 1 = 0 := by
  have key : ∀ k : Fin 6, ¬ inR (nI (k.1 / 2)) 0 2 = 0 ∧ ¬ inR (nI (k.1 % 2)) 0 1 = 0 := by decide
  exact key ⟨k, hk⟩
theorem ord_in {A : AS} {k p : Nat} (hm : aM A ≤ 12) (hk : k < 6) (hp : p < cnt A (aM A) k) : ∃ t, t < aM A ∧ cnP (fun t => pK A k t) t = p ∧ pK A k t ∧ ordF A (nI (k / 2)) (nI (k % 2)) (nI p) = nI (odA A t) := by
  have hle := cnP_le (fun t => pK A k t) (aM A)
  have hp' : p < cnP (fun t => pK A k t) (aM A) := hp
  rw [ordF, if_neg (in_k hk).1, if_neg (in_k hk).2, if_neg (nI_pos (n := p) (by omega))]
  rcases hf : amF (fun r => aU A r 0 = nI (k / 2) ∧ aU A r 1 = nI (k % 2)) (odA A) (nI p) 0 (aM A) 0 with _ | r
  · obtain ⟨t, a, b, c⟩ := cnP_hit hp'
    have h := amF_none hf t (Nat.zero_le _) (by omega) b
    refine absurd ?_ h
    show nI (0 + (cnP (fun u => pK A k u) t - 0)) = nI p
    rw [c]; congr 1; omega
  · obtain ⟨t, _, b, c, d, e⟩ := amF_some hf
    have hb : cnP (fun u => pK A k u) t ≤ t := cnP_le _ _
    have e2 : nI (0 + (cnP (fun u => pK A k u) t - 0)) = nI p := e
    have e3 := (nI_eq (by omega) (by omega)).mp e2
    exact ⟨t, by omega, by omega, by rw [← c] at d; exact d, by show nI r = _; rw [c]⟩
theorem ord_out {A : AS} {k p : Nat} (hm : aM A ≤ 12) (hk : k < 6) (hp : cnt A (aM A) k ≤ p) (hp2 : p ≤ 12) : ordF A (nI (k / 2)) (nI (k % 2)) (nI p) = -1006 := by
  have hp' : cnP (fun t => pK A k t) (aM A) ≤ p := hp
  rw [ordF, if_neg (in_k hk).1, if_neg (in_k hk).2, if_neg (nI_pos (n := p) (by omega))]
  rcases hf : amF (fun r => aU A r 0 = nI (k / 2) ∧ aU A r 1 = nI (k % 2)) (odA A) (nI p) 0 (aM A) 0 with _ | r
  · rfl
  · obtain ⟨t, _, b, c, d, e⟩ := amF_some hf
    have hb : cnP (fun u => pK A k u) t ≤ t := cnP_le _ _
    have e2 : nI (0 + (cnP (fun u => pK A k u) t - 0)) = nI p := e
    have e3 := (nI_eq (by omega) (by omega)).mp e2
    have d2 : pK A k t := by rw [← c] at d; exact d
    have e4 : cnP (fun u => pK A k u) (t + 1) = cnP (fun u => pK A k u) t + 1 := by
      show cnP (fun u => pK A k u) t + (if pK A k t then 1 else 0) = _
      rw [if_pos d2]
    have e5 := cnP_mono (fun u => pK A k u) (show t + 1 ≤ aM A by omega)
    omega
theorem cnt_six {A : AS} (hA : Good A) : ∀ n, n ≤ aM A → cnt A n 0 + cnt A n 1 + cnt A n 2 + cnt A n 3 + cnt A n 4 + cnt A n 5 = n := by
  have key : ∀ (a : Fin 3) (b : Fin 2), (if nI a.1 = nI 0 ∧ nI b.1 = nI 0 then 1 else 0) + (if nI a.1 = nI 0 ∧ nI b.1 = nI 1 then 1 else 0) + (if nI a.1 = nI 1 ∧ nI b.1 = nI 0 then 1 else 0) + (if nI a.1 = nI 1 ∧ nI b.1 = nI 1 then 1 else 0) + (if nI a.1 = nI 2 ∧ nI b.1 = nI 0 then 1 else 0) + (if nI a.1 = nI 2 ∧ nI b.1 = nI 1 then 1 else 0) = 1 := by decide
  intro n
  induction n with
  | zero => exact fun _ => rfl
  | succ n ih =>
    intro hn
    have h0 := ih (by omega)
    have hr := hA.1.2.1 _ (od_lt (A := A) (t := n) (by omega))
    have e0 : ∃ a : Fin 3, aU A (odA A n) 0 = nI a.1 := by
      rcases in_02 hr.1.1 with z | z | z
      · exact ⟨0, z⟩
      · exact ⟨1, z⟩
      · exact ⟨2, z⟩
    have e1 : ∃ b : Fin 2, aU A (odA A n) 1 = nI b.1 := by
      rcases kind_cases hr with ⟨z, _⟩ | ⟨z, _⟩
      · exact ⟨0, z⟩
      · exact ⟨1, z⟩
    obtain ⟨a, ea⟩ := e0
    obtain ⟨b, eb⟩ := e1
    have st : ∀ k, cnt A (n + 1) k = cnt A n k + (if nI a.1 = nI (k / 2) ∧ nI b.1 = nI (k % 2) then 1 else 0) := fun k => by
      show cnP (fun t => pK A k t) n + (if aU A (odA A n) 0 = nI (k / 2) ∧ aU A (odA A n) 1 = nI (k % 2) then 1 else 0) = _
      rw [ea, eb]
      rfl
    have kk := key a b
    rw [st 0, st 1, st 2, st 3, st 4, st 5]
    show cnt A n 0 + (if nI a.1 = nI 0 ∧ nI b.1 = nI 0 then 1 else 0) + (cnt A n 1 + (if nI a.1 = nI 0 ∧ nI b.1 = nI 1 then 1 else 0)) + (cnt A n 2 + (if nI a.1 = nI 1 ∧ nI b.1 = nI 0 then 1 else 0)) + (cnt A n 3 + (if nI a.1 = nI 1 ∧ nI b.1 = nI 1 then 1 else 0)) + (cnt A n 4 + (if nI a.1 = nI 2 ∧ nI b.1 = nI 0 then 1 else 0)) + (cnt A n 5 + (if nI a.1 = nI 2 ∧ nI b.1 = nI 1 then 1 else 0)) = n + 1
    omega
theorem pl_six {A : AS} (hA : Good A) : pl A 6 = aM A := by
  have h := cnt_six hA (aM A) (Nat.le_refl _)
  show 0 + cnt A (aM A) 0 + cnt A (aM A) 1 + cnt A (aM A) 2 + cnt A (aM A) 3 + cnt A (aM A) 4 + cnt A (aM A) 5 = aM A
  omega
/-- the last rule told, ahead of the place p -/
def PrR (A : AS) (k p : Nat) (rk rl : Int32) : Prop := (p = 0 ∧ rk = -1 ∧ rl = -1) ∨ ∃ t, t < aM A ∧ cnP (fun t => pK A k t) t + 1 = p ∧ rk = aU A (odA A t) 2 ∧ rl = nI (odA A t)
theorem PrR.next {A : AS} {k p t : Nat} {rk rl : Int32} (h : PrR A k p rk rl) (hA : Good A) (ht : t < aM A) (hp : cnP (fun t => pK A k t) t = p) : ¬ aU A (odA A t) 2 < rk ∧ (aU A (odA A t) 2 = rk → rl < nI (odA A t)) := by
  obtain ⟨q, hq, e⟩ := (hA.1.2.1 _ (od_lt ht)).1.2.2.1
  have hot := od_lt ht
  have hm := hA.2.2.1
  rcases h with ⟨_, rfl, rfl⟩ | ⟨u, hu, hc, rfl, rfl⟩
  · rw [e]
    refine ⟨fun z => ?_, fun z => ?_⟩
    · have z2 := Int32.lt_iff_toInt_lt.mp z
      rw [nI_toInt (by omega), show (-1 : Int32).toInt = -1 from rfl] at z2
      omega
    · have z2 := congrArg Int32.toInt z
      rw [nI_toInt (by omega), show (-1 : Int32).toInt = -1 from rfl] at z2
      omega
  · have hut : u < t := by
      refine Nat.lt_of_not_le fun z => ?_
      have := cnP_mono (fun t => pK A k t) z
      omega
    have hl := osrt_lex (rkF (aU A)) (aM A) u t hut ht
    have hou := od_lt hu
    rcases hl with hl | ⟨hl, hl2⟩
    · have hl3 : aU A (odA A u) 2 < aU A (odA A t) 2 := hl
      exact ⟨fun z => i_irr _ (Int32.lt_trans z hl3), fun z => by rw [z] at hl3; exact absurd hl3 (i_irr _)⟩
    · have hl3 : aU A (odA A u) 2 = aU A (odA A t) 2 := hl
      exact ⟨fun z => by rw [hl3] at z; exact i_irr _ z, fun _ => nI_lt hl2 (by omega)⟩
set_option maxRecDepth 100000 in
set_option maxHeartbeats 1000000 in
theorem S_areRules (A : AS) (I : MI) (R : MR) (hO : Ob I R A) (hA : Good A) : Sp 38 0 0 mL_areRules [.ref 0] g0 I R (Rt (some (.int 1)) g0 I R) := by
  refine Sp.on (by decide +kernel) rfl rfl (fun J hM => ?_)
  have hJ := hM.ok
  have hMl := hA.2.2.1
  have outer : ∀ (m k : Nat) (l5 l6 l7 l8 : Option Value), m + k = 6 → J 0 0 46 [some (.ref 0), some (.int (nI (aM A))), some (.int (nI (coF (fun j => aU A j 10) (aM A)))), some (.int (nI (pl A k))), some (.int (nI k)), l5, l6, l7, l8] [] g0 I R := by
    intro m
    induction m with
    | zero =>
      intro k l5 l6 l7 l8 hk
      have ek : k = 6 := by omega
      subst ek
      rw [pl_six hA]
      refine q_iload hJ dL_areRules_46 (q := 48) rfl rfl ?_
      refine q_bipush hJ (v := 6) dL_areRules_48 (q := 50) rfl (by decide) ?_
      refine q_icmp_ge hJ (tgt := 193) dL_areRules_50 (q := 53) rfl (by decide) (fun _ => ?_) (fun c1 => absurd ((nI_leI (a := 6) (b := 6) (by decide) (by decide)).mpr (by omega)) c1)
      refine q_iload_n hJ dL_areRules_193 (q := 194) rfl rfl ?_
      refine q_iload_n hJ dL_areRules_194 (q := 195) rfl rfl ?_
      refine q_icmp_ne hJ (tgt := 223) dL_areRules_195 (q := 198) rfl (by decide) (fun c2 => absurd rfl c2) (fun _ => ?_)
      refine q_aload_n hJ dL_areRules_198 (q := 199) rfl rfl rfl ?_
      refine q_iconst hJ (v := 2) dL_areRules_199 (q := 200) rfl (by decide) ?_
      refine q_callV hJ dL_areRules_200 (q := 203) rfl (O_total 2 (by decide) (by decide) hO) imX10_total ln_L_14 ka_x (by decide) rfl rfl rfl rfl (Nat.le_of_ble_eq_true rfl) (by decide) (by decide) rfl rfl (fun rv gv Iv Rv hv => ?_)
      obtain ⟨rfl, rfl, rfl, rfl⟩ := hv
      refine q_iload_n hJ dL_areRules_203 (q := 204) rfl rfl ?_
      refine q_icmp_ne hJ (tgt := 223) dL_areRules_204 (q := 207) rfl (by decide) (fun c3 => absurd rfl c3) (fun _ => ?_)
      refine q_aload_n hJ dL_areRules_207 (q := 208) rfl rfl rfl ?_
      refine q_iload_n hJ dL_areRules_208 (q := 209) rfl rfl ?_
      refine q_iconst hJ (v := 0) dL_areRules_209 (q := 210) rfl (by decide) ?_
      refine q_callV hJ dL_areRules_210 (q := 213) rfl ((O_rule (nI (aM A)) 0 hO).val (rul_n (Nat.le_refl _) (by omega) 0)) imX10_rule ln_L_26 ka_x (by decide) rfl rfl rfl rfl (Nat.le_of_ble_eq_true rfl) (by decide) (by decide) rfl rfl (fun rv gv Iv Rv hv => ?_)
      obtain ⟨rfl, rfl, rfl, rfl⟩ := hv
      refine q_sipush hJ (v := (-1001)) dL_areRules_213 (q := 216) rfl (by decide) ?_
      refine q_icmp_ne hJ (tgt := 223) dL_areRules_216 (q := 219) rfl (by decide) (fun c4 => absurd rfl c4) (fun _ => ?_)
      refine q_iconst hJ (v := 1) dL_areRules_219 (q := 220) rfl (by decide) ?_
      refine q_goto hJ (tgt := 224) dL_areRules_220 (by decide) ?_
      refine q_iret hM dL_areRules_224 rfl (by decide) ?_
      exact ⟨rfl, rfl, rfl, rfl⟩
    | succ m ih =>
      intro k l5 l6 l7 l8 hk
      have hk2 : nI k / 2 = nI (k / 2) := pk_div (d := 2) (by omega) (by decide) (by decide)
      have hkr : nI k - nI k / 2 * 2 = nI (k % 2) := pk_rem (d := 2) (by omega) (by decide) (by decide)
      have hcl : cnt A (aM A) k ≤ aM A := cnP_le _ _
      have exit : ∀ (p : Nat) (l5 l6 l8 : Option Value), p = cnt A (aM A) k → J 0 0 182 [some (.ref 0), some (.int (nI (aM A))), some (.int (nI (coF (fun j => aU A j 10) (aM A)))), some (.int (nI (pl A k))), some (.int (nI k)), l5, l6, some (.int (nI p)), l8] [] g0 I R := by
        intro p l5 l6 l8 hp
        refine q_iload_n hJ dL_areRules_182 (q := 183) rfl rfl ?_
        refine q_iload hJ dL_areRules_183 (q := 185) rfl rfl ?_
        refine q_iadd hJ dL_areRules_185 (q := 186) rfl ?_
        rw [nI_add, hp]
        refine q_istore_n hJ dL_areRules_186 (q := 187) rfl (by decide) ?_
        refine q_iinc hJ dL_areRules_187 (q := 190) rfl (by decide) rfl (nI_1 k) ?_
        refine q_goto hJ (tgt := 46) dL_areRules_190 (by decide) ?_
        exact ih (k + 1) _ _ _ _ (by omega)
      have inner : ∀ (m p : Nat) (rk rl : Int32) (l8 : Option Value), m + p = 12 → p ≤ cnt A (aM A) k → PrR A k p rk rl → J 0 0 62 [some (.ref 0), some (.int (nI (aM A))), some (.int (nI (coF (fun j => aU A j 10) (aM A)))), some (.int (nI (pl A k))), some (.int (nI k)), some (.int (rk)), some (.int (rl)), some (.int (nI p)), l8] [] g0 I R := by
        intro m3
        induction m3 with
        | zero =>
          intro p rk rl l8 hp hpc hpr
          refine q_iload hJ dL_areRules_62 (q := 64) rfl rfl ?_
          refine q_bipush hJ (v := 12) dL_areRules_64 (q := 66) rfl (by decide) ?_
          refine q_icmp_ge hJ (tgt := 182) dL_areRules_66 (q := 69) rfl (by decide) (fun _ => ?_) (fun d1 => absurd ((nI_leI (a := 12) (b := p) (by decide) (by omega)).mpr (by omega)) d1)
          exact exit p _ _ _ (by omega)
        | succ m3 ih3 =>
          intro p rk rl l8 hp hpc hpr
          by_cases hlt : p < cnt A (aM A) k
          · obtain ⟨t, ht, hct, hpk, ho9⟩ := ord_in hMl (by omega) hlt
            have hot := od_lt ht
            have hn9 := hpr.next hA ht hct
            refine q_iload hJ dL_areRules_62 (q := 64) rfl rfl ?_
            refine q_bipush hJ (v := 12) dL_areRules_64 (q := 66) rfl (by decide) ?_
            refine q_icmp_ge hJ (tgt := 182) dL_areRules_66 (q := 69) rfl (by decide) (fun d1 => absurd d1 (nle (a := p) (b := 12) (by omega) (by decide))) (fun _ => ?_)
            refine q_aload_n hJ dL_areRules_69 (q := 70) rfl rfl rfl ?_
            refine q_iload hJ dL_areRules_70 (q := 72) rfl rfl ?_
            refine q_iconst hJ (v := 2) dL_areRules_72 (q := 73) rfl (by decide) ?_
            refine q_idiv hJ dL_areRules_73 (q := 74) rfl (by decide) ?_
            rw [hk2]
            refine q_iload hJ dL_areRules_74 (q := 76) rfl rfl ?_
            refine q_iconst hJ (v := 2) dL_areRules_76 (q := 77) rfl (by decide) ?_
            refine q_irem hJ dL_areRules_77 (q := 78) rfl (by decide) ?_
            rw [hkr]
            refine q_iload hJ dL_areRules_78 (q := 80) rfl rfl ?_
            refine q_callV hJ dL_areRules_80 (q := 83) rfl ((O_order (nI (k / 2)) (nI (k % 2)) (nI p) hO).val ho9) imX10_order ln_L_29 ka_x (by decide) rfl rfl rfl rfl (Nat.le_of_ble_eq_true rfl) (by decide) (by decide) rfl rfl (fun rv gv Iv Rv hv => ?_)
            obtain ⟨rfl, rfl, rfl, rfl⟩ := hv
            refine q_if_lt hJ (tgt := 182) dL_areRules_83 (q := 86) rfl (by decide) (fun d2 => absurd d2 (nI_pos (by omega))) (fun _ => ?_)
            refine q_aload_n hJ dL_areRules_86 (q := 87) rfl rfl rfl ?_
            refine q_iload hJ dL_areRules_87 (q := 89) rfl rfl ?_
            refine q_iconst hJ (v := 2) dL_areRules_89 (q := 90) rfl (by decide) ?_
            refine q_idiv hJ dL_areRules_90 (q := 91) rfl (by decide) ?_
            rw [hk2]
            refine q_iload hJ dL_areRules_91 (q := 93) rfl rfl ?_
            refine q_iconst hJ (v := 2) dL_areRules_93 (q := 94) rfl (by decide) ?_
            refine q_irem hJ dL_areRules_94 (q := 95) rfl (by decide) ?_
            rw [hkr]
            refine q_iload hJ dL_areRules_95 (q := 97) rfl rfl ?_
            refine q_callV hJ dL_areRules_97 (q := 100) rfl ((O_order (nI (k / 2)) (nI (k % 2)) (nI p) hO).val ho9) imX10_order ln_L_29 ka_x (by decide) rfl rfl rfl rfl (Nat.le_of_ble_eq_true rfl) (by decide) (by decide) rfl rfl (fun rv gv Iv Rv hv => ?_)
            obtain ⟨rfl, rfl, rfl, rfl⟩ := hv
            refine q_istore hJ dL_areRules_100 (q := 102) rfl (by decide) ?_
            refine q_aload_n hJ dL_areRules_102 (q := 103) rfl rfl rfl ?_
            refine q_iload hJ dL_areRules_103 (q := 105) rfl rfl ?_
            refine q_iconst hJ (v := 0) dL_areRules_105 (q := 106) rfl (by decide) ?_
            refine q_callV hJ dL_areRules_106 (q := 109) rfl ((O_rule (nI (odA A t)) 0 hO).val ((rul_at hot hMl 0).trans hpk.1)) imX10_rule ln_L_26 ka_x (by decide) rfl rfl rfl rfl (Nat.le_of_ble_eq_true rfl) (by decide) (by decide) rfl rfl (fun rv gv Iv Rv hv => ?_)
            obtain ⟨rfl, rfl, rfl, rfl⟩ := hv
            refine q_iload hJ dL_areRules_109 (q := 111) rfl rfl ?_
            refine q_iconst hJ (v := 2) dL_areRules_111 (q := 112) rfl (by decide) ?_
            refine q_idiv hJ dL_areRules_112 (q := 113) rfl (by decide) ?_
            rw [hk2]
            refine q_icmp_ne hJ (tgt := 161) dL_areRules_113 (q := 116) rfl (by decide) (fun d3 => absurd rfl d3) (fun _ => ?_)
            refine q_aload_n hJ dL_areRules_116 (q := 117) rfl rfl rfl ?_
            refine q_iload hJ dL_areRules_117 (q := 119) rfl rfl ?_
            refine q_iconst hJ (v := 1) dL_areRules_119 (q := 120) rfl (by decide) ?_
            refine q_callV hJ dL_areRules_120 (q := 123) rfl ((O_rule (nI (odA A t)) 1 hO).val ((rul_at hot hMl 1).trans hpk.2)) imX10_rule ln_L_26 ka_x (by decide) rfl rfl rfl rfl (Nat.le_of_ble_eq_true rfl) (by decide) (by decide) rfl rfl (fun rv gv Iv Rv hv => ?_)
            obtain ⟨rfl, rfl, rfl, rfl⟩ := hv
            refine q_iload hJ dL_areRules_123 (q := 125) rfl rfl ?_
            refine q_iconst hJ (v := 2) dL_areRules_125 (q := 126) rfl (by decide) ?_
            refine q_irem hJ dL_areRules_126 (q := 127) rfl (by decide) ?_
            rw [hkr]
            refine q_icmp_ne hJ (tgt := 161) dL_areRules_127 (q := 130) rfl (by decide) (fun d4 => absurd rfl d4) (fun _ => ?_)
            refine q_aload_n hJ dL_areRules_130 (q := 131) rfl rfl rfl ?_
            refine q_iload hJ dL_areRules_131 (q := 133) rfl rfl ?_
            refine q_iconst hJ (v := 2) dL_areRules_133 (q := 134) rfl (by decide) ?_
            refine q_callV hJ dL_areRules_134 (q := 137) rfl ((O_rule (nI (odA A t)) 2 hO).val (rul_at hot hMl 2)) imX10_rule ln_L_26 ka_x (by decide) rfl rfl rfl rfl (Nat.le_of_ble_eq_true rfl) (by decide) (by decide) rfl rfl (fun rv gv Iv Rv hv => ?_)
            obtain ⟨rfl, rfl, rfl, rfl⟩ := hv
            refine q_iload hJ dL_areRules_137 (q := 139) rfl rfl ?_
            refine q_icmp_lt hJ (tgt := 161) dL_areRules_139 (q := 142) rfl (by decide) (fun d5 => absurd d5 hn9.1) (fun _ => ?_)
            refine q_aload_n hJ dL_areRules_142 (q := 143) rfl rfl rfl ?_
            refine q_iload hJ dL_areRules_143 (q := 145) rfl rfl ?_
            refine q_iconst hJ (v := 2) dL_areRules_145 (q := 146) rfl (by decide) ?_
            refine q_callV hJ dL_areRules_146 (q := 149) rfl ((O_rule (nI (odA A t)) 2 hO).val (rul_at hot hMl 2)) imX10_rule ln_L_26 ka_x (by decide) rfl rfl rfl rfl (Nat.le_of_ble_eq_true rfl) (by decide) (by decide) rfl rfl (fun rv gv Iv Rv hv => ?_)
            obtain ⟨rfl, rfl, rfl, rfl⟩ := hv
            refine q_iload hJ dL_areRules_149 (q := 151) rfl rfl ?_
            refine q_icmp_ne hJ (tgt := 163) dL_areRules_151 (q := 154) rfl (by decide) (fun d6 => ?_) (fun d6 => ?_)
            · refine q_aload_n hJ dL_areRules_163 (q := 164) rfl rfl rfl ?_
              refine q_iload hJ dL_areRules_164 (q := 166) rfl rfl ?_
              refine q_iconst hJ (v := 2) dL_areRules_166 (q := 167) rfl (by decide) ?_
              refine q_callV hJ dL_areRules_167 (q := 170) rfl ((O_rule (nI (odA A t)) 2 hO).val (rul_at hot hMl 2)) imX10_rule ln_L_26 ka_x (by decide) rfl rfl rfl rfl (Nat.le_of_ble_eq_true rfl) (by decide) (by decide) rfl rfl (fun rv gv Iv Rv hv => ?_)
              obtain ⟨rfl, rfl, rfl, rfl⟩ := hv
              refine q_istore hJ dL_areRules_170 (q := 172) rfl (by decide) ?_
              refine q_iload hJ dL_areRules_172 (q := 174) rfl rfl ?_
              refine q_istore hJ dL_areRules_174 (q := 176) rfl (by decide) ?_
              refine q_iinc hJ dL_areRules_176 (q := 179) rfl (by decide) rfl (nI_1 p) ?_
              refine q_goto hJ (tgt := 62) dL_areRules_179 (by decide) ?_
              exact ih3 (p + 1) _ _ _ (by omega) (by omega) (Or.inr ⟨t, ht, by omega, rfl, rfl⟩)
            · refine q_iload hJ dL_areRules_154 (q := 156) rfl rfl ?_
              refine q_iload hJ dL_areRules_156 (q := 158) rfl rfl ?_
              refine q_icmp_gt hJ (tgt := 163) dL_areRules_158 (q := 161) rfl (by decide) (fun _ => ?_) (fun d7 => absurd (hn9.2 d6) d7)
              refine q_aload_n hJ dL_areRules_163 (q := 164) rfl rfl rfl ?_
              refine q_iload hJ dL_areRules_164 (q := 166) rfl rfl ?_
              refine q_iconst hJ (v := 2) dL_areRules_166 (q := 167) rfl (by decide) ?_
              refine q_callV hJ dL_areRules_167 (q := 170) rfl ((O_rule (nI (odA A t)) 2 hO).val (rul_at hot hMl 2)) imX10_rule ln_L_26 ka_x (by decide) rfl rfl rfl rfl (Nat.le_of_ble_eq_true rfl) (by decide) (by decide) rfl rfl (fun rv gv Iv Rv hv => ?_)
              obtain ⟨rfl, rfl, rfl, rfl⟩ := hv
              refine q_istore hJ dL_areRules_170 (q := 172) rfl (by decide) ?_
              refine q_iload hJ dL_areRules_172 (q := 174) rfl rfl ?_
              refine q_istore hJ dL_areRules_174 (q := 176) rfl (by decide) ?_
              refine q_iinc hJ dL_areRules_176 (q := 179) rfl (by decide) rfl (nI_1 p) ?_
              refine q_goto hJ (tgt := 62) dL_areRules_179 (by decide) ?_
              exact ih3 (p + 1) _ _ _ (by omega) (by omega) (Or.inr ⟨t, ht, by omega, rfl, rfl⟩)
          · refine q_iload hJ dL_areRules_62 (q := 64) rfl rfl ?_
            refine q_bipush hJ (v := 12) dL_areRules_64 (q := 66) rfl (by decide) ?_
            refine q_icmp_ge hJ (tgt := 182) dL_areRules_66 (q := 69) rfl (by decide) (fun d1 => absurd d1 (nle (a := p) (b := 12) (by omega) (by decide))) (fun _ => ?_)
            refine q_aload_n hJ dL_areRules_69 (q := 70) rfl rfl rfl ?_
            refine q_iload hJ dL_areRules_70 (q := 72) rfl rfl ?_
            refine q_iconst hJ (v := 2) dL_areRules_72 (q := 73) rfl (by decide) ?_
            refine q_idiv hJ dL_areRules_73 (q := 74) rfl (by decide) ?_
            rw [hk2]
            refine q_iload hJ dL_areRules_74 (q := 76) rfl rfl ?_
            refine q_iconst hJ (v := 2) dL_areRules_76 (q := 77) rfl (by decide) ?_
            refine q_irem hJ dL_areRules_77 (q := 78) rfl (by decide) ?_
            rw [hkr]
            refine q_iload hJ dL_areRules_78 (q := 80) rfl rfl ?_
            refine q_callV hJ dL_areRules_80 (q := 83) rfl ((O_order (nI (k / 2)) (nI (k % 2)) (nI p) hO).val (ord_out hMl (by omega) (by omega) (by omega))) imX10_order ln_L_29 ka_x (by decide) rfl rfl rfl rfl (Nat.le_of_ble_eq_true rfl) (by decide) (by decide) rfl rfl (fun rv gv Iv Rv hv => ?_)
            obtain ⟨rfl, rfl, rfl, rfl⟩ := hv
            refine q_if_lt hJ (tgt := 182) dL_areRules_83 (q := 86) rfl (by decide) (fun _ => ?_) (fun d2 => absurd (show (-1006 : Int32) < 0 by decide) d2)
            exact exit p _ _ _ (by omega)
      refine q_iload hJ dL_areRules_46 (q := 48) rfl rfl ?_
      refine q_bipush hJ (v := 6) dL_areRules_48 (q := 50) rfl (by decide) ?_
      refine q_icmp_ge hJ (tgt := 193) dL_areRules_50 (q := 53) rfl (by decide) (fun c1 => absurd c1 (nle (a := k) (b := 6) (by omega) (by decide))) (fun _ => ?_)
      refine q_iconst hJ (v := (-1)) dL_areRules_53 (q := 54) rfl (by decide) ?_
      refine q_istore hJ dL_areRules_54 (q := 56) rfl (by decide) ?_
      refine q_iconst hJ (v := (-1)) dL_areRules_56 (q := 57) rfl (by decide) ?_
      refine q_istore hJ dL_areRules_57 (q := 59) rfl (by decide) ?_
      refine q_iconst hJ (v := 0) dL_areRules_59 (q := 60) rfl (by decide) ?_
      refine q_istore hJ dL_areRules_60 (q := 62) rfl (by decide) ?_
      exact inner 12 0 _ _ _ rfl (Nat.zero_le _) (Or.inl ⟨rfl, rfl, rfl⟩)
  have loop : ∀ (m q : Nat), m + q = aM A → J 0 0 13 [some (.ref 0), some (.int (nI (aM A))), some (.int (nI (coF (fun j => aU A j 10) q))), some (.int (0)), some (.int (nI q)), none, none, none, none] [] g0 I R := by
    intro m
    induction m with
    | zero =>
      intro q hq
      refine q_iload hJ dL_areRules_13 (q := 15) rfl rfl ?_
      refine q_iload_n hJ dL_areRules_15 (q := 16) rfl rfl ?_
      refine q_icmp_ge hJ (tgt := 43) dL_areRules_16 (q := 19) rfl (by decide) (fun _ => ?_) (fun c1 => absurd ((nI_leI (by omega) (by omega)).mpr (by omega)) c1)
      refine q_iconst hJ (v := 0) dL_areRules_43 (q := 44) rfl (by decide) ?_
      refine q_istore hJ dL_areRules_44 (q := 46) rfl (by decide) ?_
      have eq : q = aM A := by omega
      subst eq
      exact outer 6 0 _ _ _ _ rfl
    | succ m ih =>
      intro q hq
      refine q_iload hJ dL_areRules_13 (q := 15) rfl rfl ?_
      refine q_iload_n hJ dL_areRules_15 (q := 16) rfl rfl ?_
      refine q_icmp_ge hJ (tgt := 43) dL_areRules_16 (q := 19) rfl (by decide) (fun c1 => absurd c1 (nle (by omega) (by omega))) (fun _ => ?_)
      refine q_iload hJ dL_areRules_19 (q := 21) rfl rfl ?_
      refine q_bipush hJ (v := 12) dL_areRules_21 (q := 23) rfl (by decide) ?_
      refine q_icmp_ge hJ (tgt := 43) dL_areRules_23 (q := 26) rfl (by decide) (fun c2 => absurd c2 (nle (a := q) (b := 12) (by omega) (by decide))) (fun _ => ?_)
      refine q_iload_n hJ dL_areRules_26 (q := 27) rfl rfl ?_
      refine q_aload_n hJ dL_areRules_27 (q := 28) rfl rfl rfl ?_
      refine q_iload hJ dL_areRules_28 (q := 30) rfl rfl ?_
      refine q_bipush hJ (v := 10) dL_areRules_30 (q := 32) rfl (by decide) ?_
      refine q_callV hJ dL_areRules_32 (q := 35) rfl ((O_rule (nI q) 10 hO).val ((rul_at (r := q) (by omega) hMl 10).trans (tell_on _))) imX10_rule ln_L_26 ka_x (by decide) rfl rfl rfl rfl (Nat.le_of_ble_eq_true rfl) (by decide) (by decide) rfl rfl (fun rv gv Iv Rv hv => ?_)
      obtain ⟨rfl, rfl, rfl, rfl⟩ := hv
      refine q_iadd hJ dL_areRules_35 (q := 36) rfl ?_
      rw [nI_add]
      refine q_istore_n hJ dL_areRules_36 (q := 37) rfl (by decide) ?_
      refine q_iinc hJ dL_areRules_37 (q := 40) rfl (by decide) rfl (nI_1 q) ?_
      refine q_goto hJ (tgt := 13) dL_areRules_40 (by decide) ?_
      exact ih (q + 1) (by omega)
  refine q_aload_n hJ dL_areRules_0 (q := 1) rfl rfl rfl ?_
  refine q_iconst hJ (v := 1) dL_areRules_1 (q := 2) rfl (by decide) ?_
  refine q_callV hJ dL_areRules_2 (q := 5) rfl (O_total 1 (by decide) (by decide) hO) imX10_total ln_L_14 ka_x (by decide) rfl rfl rfl rfl (Nat.le_of_ble_eq_true rfl) (by decide) (by decide) rfl rfl (fun rv gv Iv Rv hv => ?_)
  obtain ⟨rfl, rfl, rfl, rfl⟩ := hv
  refine q_istore_n hJ dL_areRules_5 (q := 6) rfl (by decide) ?_
  refine q_iconst hJ (v := 0) dL_areRules_6 (q := 7) rfl (by decide) ?_
  refine q_istore_n hJ dL_areRules_7 (q := 8) rfl (by decide) ?_
  refine q_iconst hJ (v := 0) dL_areRules_8 (q := 9) rfl (by decide) ?_
  refine q_istore_n hJ dL_areRules_9 (q := 10) rfl (by decide) ?_
  refine q_iconst hJ (v := 0) dL_areRules_10 (q := 11) rfl (by decide) ?_
  refine q_istore hJ dL_areRules_11 (q := 13) rfl (by decide) ?_
  exact loop (aM A) 0 (by omega)

