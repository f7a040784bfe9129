/-! THE LAW'S METHODS: does -/
theorem tsw_out10b {j : Nat} (h : j < 16) (h0 : ¬ nI j = 0) (h1 : ¬ nI j = 1) : True := trivial
theorem put_n {A : AS} {r : Nat} (h : aM A ≤ r) (hr : r < 1000) (v : Int32) : putV A (nI r) v = -1001 := by
  rw [putV, if_neg (nI_pos (n := r) (by omega)), if_pos ((nI_leI (by omega) (by omega)).mpr h)]
theorem put_s {A : AS} {r : Nat} (h : r < aM A) (hm : aM A ≤ 12) {v : Int32} (hv : aU A r 10 = v) : putV A (nI r) v = -1006 := by
  rw [putV, if_neg (nI_pos (n := r) (by omega)), if_neg (nI_ge h (by omega)), nI_clamp (by omega), if_pos hv]
theorem put_d {A : AS} {r : Nat} (h : r < aM A) (hm : aM A ≤ 12) {v : Int32} (hv : ¬ aU A r 10 = v) : putV A (nI r) v = nI (coF (fun j => putU A r v j 10) (aM A)) := by
  rw [putV, if_neg (nI_pos (n := r) (by omega)), if_neg (nI_ge h (by omega)), nI_clamp (by omega), if_neg hv]
theorem put_ok {A : AS} {r : Nat} (h : r < aM A) (hm : aM A ≤ 12) {v : Int32} (hv : ¬ aU A r 10 = v) : putOk A (nI r) v := ⟨okR_at h hm, by rw [nI_clamp (by omega)]; exact hv⟩
theorem put_no {A : AS} {r : Nat} (hm : aM A ≤ 12) (hr : r < 1000) {v : Int32} (hv : r < aM A → aU A r 10 = v) : ¬ putOk A (nI r) v := fun z => by
  have h : r < aM A := Nat.lt_of_not_le fun y => okR_n y hr z.1
  exact z.2 (by rw [nI_clamp (by omega)]; exact hv h)
theorem rul_b {A : AS} {r : Nat} (h : r < aM A) (hm : aM A ≤ 12) {b : Int32} (hb : aU A r 10 = b) (h01 : b = 0 ∨ b = 1) : ruleF A (nI r) 10 = b := by
  rw [rul_at h hm, tell_on, hb]
  rcases h01 with rfl | rfl <;> rfl
theorem set_s {A : AS} {s v : Int32} (h0 : ¬ inR s 0 1 = 0) (h1 : ¬ (if s = 0 then inR v 1 8 else inR v 0 1) = 0) (h2 : aS A (if s = 0 then 0 else 1) = v) : setV A s v = -1006 := by
  rw [setV, if_neg h0, if_neg h1, if_pos h2]
theorem set_d {A : AS} {s v : Int32} (h0 : ¬ inR s 0 1 = 0) (h1 : ¬ (if s = 0 then inR v 1 8 else inR v 0 1) = 0) (h2 : ¬ aS A (if s = 0 then 0 else 1) = v) : setV A s v = aS A (if s = 0 then 0 else 1) := by
  rw [setV, if_neg h0, if_neg h1, if_neg h2]
theorem in_18 {g : Nat} (h1 : 1 ≤ g) (h8 : g ≤ 8) : ¬ inR (nI g) 1 8 = 0 := by
  unfold inR
  rw [if_neg (show ¬ nI g < 1 from nI_nlt (a := g) (b := 1) h1 (by omega)), if_neg (show ¬ 8 < nI g from nI_nlt (a := 8) (b := g) h8 (by decide))]
  decide
set_option maxRecDepth 100000 in
set_option maxHeartbeats 1000000 in
theorem S_does (A : AS) (v : Int32) (I : MI) (R : MR) (hO : Ob I R A) (hA : Good A) : Sp 41 0 0 mL_does [.ref 0, .ref 317, .int v] g0 I R (DoP) := by
  refine Sp.on (by decide +kernel) rfl rfl (fun J hM => ?_)
  have hJ := hM.ok
  have hMl := hA.2.2.1
  have hN := hA.2.1.1
  have rest : ∀ (k : Int32), J 0 0 45 [some (.ref 0), some (.ref 317), some (.int v), some (.int (nI (aN A))), some (.int (k)), none, none, none, none, none, none] [] g0 I R := by
    intro k
    have put9 : ∀ (b jr : Nat), b < 2 → jr < 13 → J 0 0 137 [some (.ref 0), some (.ref 317), some (.int v), some (.int (nI (aN A))), some (.int (k)), some (.int (nI jr)), some (.int (nI b)), none, none, none, none] [] g0 I R := by
      intro b jr hb2 hjr
      rcases (show b = 0 ∨ b = 1 by omega) with rfl | rfl
      · by_cases hjm : aM A ≤ jr
        · refine q_aload_n hJ dL_does_137 (q := 138) rfl rfl rfl ?_
          refine q_iload hJ dL_does_138 (q := 140) rfl rfl ?_
          refine q_bipush hJ (v := 10) dL_does_140 (q := 142) rfl (by decide) ?_
          refine q_callV hJ dL_does_142 (q := 145) rfl ((O_rule (nI jr) 10 hO).val (rul_n (A := A) (r := jr) hjm (by omega) 10)) imX10_rule ln_L_26 ka_x (by decide) rfl rfl rfl rfl (Nat.le_of_ble_eq_true rfl) (by decide) (by decide) rfl rfl (fun rv gv Iv Rv hv => ?_)
          obtain ⟨rfl, rfl, rfl, rfl⟩ := hv
          refine q_istore hJ dL_does_145 (q := 147) rfl (by decide) ?_
          refine q_aload_n hJ dL_does_147 (q := 148) rfl rfl rfl ?_
          refine q_iload hJ dL_does_148 (q := 150) rfl rfl ?_
          refine q_iload hJ dL_does_150 (q := 152) rfl rfl ?_
          refine q_callV hJ dL_does_152 (q := 155) rfl ((O_put (nI jr) 0 (by decide) hO).valQ (put_n hjm (by omega) 0)) imX10_put ln_L_92 ka_x (by decide) rfl rfl rfl rfl (Nat.le_of_ble_eq_true rfl) (by decide) (by decide) rfl rfl (fun rv gv Iv Rv hv => ?_)
          obtain ⟨rfl, rfl, ⟨hY1, hN1⟩, hT1⟩ := hv
          have hO1 := hN1 (put_no hMl (by omega) (fun z => absurd z (by omega)))
          refine q_iload hJ dL_does_155 (q := 157) rfl rfl ?_
          refine q_if_ge hJ (tgt := 166) dL_does_157 (q := 160) rfl (by decide) (fun c1 => absurd c1 (by decide)) (fun _ => ?_)
          refine q_sipush hJ (v := (-1001)) dL_does_160 (q := 163) rfl (by decide) ?_
          refine q_goto hJ (tgt := 192) dL_does_163 (by decide) ?_
          refine q_icmp_ne hJ (tgt := 199) dL_does_192 (q := 195) rfl (by decide) (fun c4 => absurd rfl c4) (fun _ => ?_)
          refine q_iconst hJ (v := 1) dL_does_195 (q := 196) rfl (by decide) ?_
          refine q_goto hJ (tgt := 200) dL_does_196 (by decide) ?_
          refine q_iret hM dL_does_200 rfl (by decide) ?_
          exact ⟨rfl, rfl, _, hO1, hA⟩
        · have hjm : jr < aM A := by omega
          by_cases hb : aU A jr 10 = 0
          · refine q_aload_n hJ dL_does_137 (q := 138) rfl rfl rfl ?_
            refine q_iload hJ dL_does_138 (q := 140) rfl rfl ?_
            refine q_bipush hJ (v := 10) dL_does_140 (q := 142) rfl (by decide) ?_
            refine q_callV hJ dL_does_142 (q := 145) rfl ((O_rule (nI jr) 10 hO).val (rul_b hjm hMl hb (by decide))) imX10_rule ln_L_26 ka_x (by decide) rfl rfl rfl rfl (Nat.le_of_ble_eq_true rfl) (by decide) (by decide) rfl rfl (fun rv gv Iv Rv hv => ?_)
            obtain ⟨rfl, rfl, rfl, rfl⟩ := hv
            refine q_istore hJ dL_does_145 (q := 147) rfl (by decide) ?_
            refine q_aload_n hJ dL_does_147 (q := 148) rfl rfl rfl ?_
            refine q_iload hJ dL_does_148 (q := 150) rfl rfl ?_
            refine q_iload hJ dL_does_150 (q := 152) rfl rfl ?_
            refine q_callV hJ dL_does_152 (q := 155) rfl ((O_put (nI jr) 0 (by decide) hO).valQ (put_s hjm hMl hb)) imX10_put ln_L_92 ka_x (by decide) rfl rfl rfl rfl (Nat.le_of_ble_eq_true rfl) (by decide) (by decide) rfl rfl (fun rv gv Iv Rv hv => ?_)
            obtain ⟨rfl, rfl, ⟨hY1, hN1⟩, hT1⟩ := hv
            have hO1 := hN1 (put_no hMl (by omega) (fun _ => hb))
            refine q_iload hJ dL_does_155 (q := 157) rfl rfl ?_
            refine q_if_ge hJ (tgt := 166) dL_does_157 (q := 160) rfl (by decide) (fun _ => ?_) (fun c1 => absurd (by decide : (0 : Int32) ≤ 0) c1)
            refine q_iload hJ dL_does_166 (q := 168) rfl rfl ?_
            refine q_iload hJ dL_does_168 (q := 170) rfl rfl ?_
            refine q_if_eq hJ (tgt := 177) dL_does_170 (q := 173) rfl (by decide) (fun _ => ?_) (fun c2 => absurd rfl c2)
            refine q_iconst hJ (v := 0) dL_does_177 (q := 178) rfl (by decide) ?_
            refine q_icmp_ne hJ (tgt := 187) dL_does_178 (q := 181) rfl (by decide) (fun c3 => absurd rfl c3) (fun _ => ?_)
            refine q_sipush hJ (v := (-1006)) dL_does_181 (q := 184) rfl (by decide) ?_
            refine q_goto hJ (tgt := 192) dL_does_184 (by decide) ?_
            refine q_icmp_ne hJ (tgt := 199) dL_does_192 (q := 195) rfl (by decide) (fun c4 => absurd rfl c4) (fun _ => ?_)
            refine q_iconst hJ (v := 1) dL_does_195 (q := 196) rfl (by decide) ?_
            refine q_goto hJ (tgt := 200) dL_does_196 (by decide) ?_
            refine q_iret hM dL_does_200 rfl (by decide) ?_
            exact ⟨rfl, rfl, _, hO1, hA⟩
          · have hnb := hb
            have hb : aU A jr 10 = 1 := (hA.1.2.1 jr hjm).2.2.resolve_left hb
            refine q_aload_n hJ dL_does_137 (q := 138) rfl rfl rfl ?_
            refine q_iload hJ dL_does_138 (q := 140) rfl rfl ?_
            refine q_bipush hJ (v := 10) dL_does_140 (q := 142) rfl (by decide) ?_
            refine q_callV hJ dL_does_142 (q := 145) rfl ((O_rule (nI jr) 10 hO).val (rul_b hjm hMl hb (by decide))) imX10_rule ln_L_26 ka_x (by decide) rfl rfl rfl rfl (Nat.le_of_ble_eq_true rfl) (by decide) (by decide) rfl rfl (fun rv gv Iv Rv hv => ?_)
            obtain ⟨rfl, rfl, rfl, rfl⟩ := hv
            refine q_istore hJ dL_does_145 (q := 147) rfl (by decide) ?_
            refine q_aload_n hJ dL_does_147 (q := 148) rfl rfl rfl ?_
            refine q_iload hJ dL_does_148 (q := 150) rfl rfl ?_
            refine q_iload hJ dL_does_150 (q := 152) rfl rfl ?_
            refine q_callV hJ dL_does_152 (q := 155) rfl ((O_put (nI jr) 0 (by decide) hO).valQ (put_d hjm hMl hnb)) imX10_put ln_L_92 ka_x (by decide) rfl rfl rfl rfl (Nat.le_of_ble_eq_true rfl) (by decide) (by decide) rfl rfl (fun rv gv Iv Rv hv => ?_)
            obtain ⟨rfl, rfl, ⟨hY1, hN1⟩, hT1⟩ := hv
            have hO1 := hY1 (put_ok hjm hMl hnb)
            rw [nI_clamp (by omega)] at hO1
            refine q_iload hJ dL_does_155 (q := 157) rfl rfl ?_
            refine q_if_ge hJ (tgt := 166) dL_does_157 (q := 160) rfl (by decide) (fun _ => ?_) (fun c1 => absurd (by decide : (0 : Int32) ≤ 1) c1)
            refine q_iload hJ dL_does_166 (q := 168) rfl rfl ?_
            refine q_iload hJ dL_does_168 (q := 170) rfl rfl ?_
            refine q_if_eq hJ (tgt := 177) dL_does_170 (q := 173) rfl (by decide) (fun _ => ?_) (fun c2 => absurd rfl c2)
            refine q_iconst hJ (v := 0) dL_does_177 (q := 178) rfl (by decide) ?_
            refine q_icmp_ne hJ (tgt := 187) dL_does_178 (q := 181) rfl (by decide) (fun _ => ?_) (fun c3 => absurd c3 (by decide))
            refine q_aload_n hJ dL_does_187 (q := 188) rfl rfl rfl ?_
            refine q_iconst hJ (v := 2) dL_does_188 (q := 189) rfl (by decide) ?_
            refine q_callV hJ dL_does_189 (q := 192) rfl ((O_total 2 (by decide) (by decide) hO1).val (w := nI (coF (fun j => putU A jr 0 j 10) (aM A))) rfl) imX10_total ln_L_14 ka_x (by decide) rfl rfl rfl rfl (Nat.le_of_ble_eq_true rfl) (by decide) (by decide) rfl rfl (fun rv gv Iv Rv hv => ?_)
            obtain ⟨rfl, rfl, rfl, rfl⟩ := hv
            refine q_icmp_ne hJ (tgt := 199) dL_does_192 (q := 195) rfl (by decide) (fun c4 => absurd rfl c4) (fun _ => ?_)
            refine q_iconst hJ (v := 1) dL_does_195 (q := 196) rfl (by decide) ?_
            refine q_goto hJ (tgt := 200) dL_does_196 (by decide) ?_
            refine q_iret hM dL_does_200 rfl (by decide) ?_
            exact ⟨rfl, rfl, _, hO1, (hA.put (by decide))⟩
      · by_cases hjm : aM A ≤ jr
        · refine q_aload_n hJ dL_does_137 (q := 138) rfl rfl rfl ?_
          refine q_iload hJ dL_does_138 (q := 140) rfl rfl ?_
          refine q_bipush hJ (v := 10) dL_does_140 (q := 142) rfl (by decide) ?_
          refine q_callV hJ dL_does_142 (q := 145) rfl ((O_rule (nI jr) 10 hO).val (rul_n (A := A) (r := jr) hjm (by omega) 10)) imX10_rule ln_L_26 ka_x (by decide) rfl rfl rfl rfl (Nat.le_of_ble_eq_true rfl) (by decide) (by decide) rfl rfl (fun rv gv Iv Rv hv => ?_)
          obtain ⟨rfl, rfl, rfl, rfl⟩ := hv
          refine q_istore hJ dL_does_145 (q := 147) rfl (by decide) ?_
          refine q_aload_n hJ dL_does_147 (q := 148) rfl rfl rfl ?_
          refine q_iload hJ dL_does_148 (q := 150) rfl rfl ?_
          refine q_iload hJ dL_does_150 (q := 152) rfl rfl ?_
          refine q_callV hJ dL_does_152 (q := 155) rfl ((O_put (nI jr) 1 (by decide) hO).valQ (put_n hjm (by omega) 1)) imX10_put ln_L_92 ka_x (by decide) rfl rfl rfl rfl (Nat.le_of_ble_eq_true rfl) (by decide) (by decide) rfl rfl (fun rv gv Iv Rv hv => ?_)
          obtain ⟨rfl, rfl, ⟨hY1, hN1⟩, hT1⟩ := hv
          have hO1 := hN1 (put_no hMl (by omega) (fun z => absurd z (by omega)))
          refine q_iload hJ dL_does_155 (q := 157) rfl rfl ?_
          refine q_if_ge hJ (tgt := 166) dL_does_157 (q := 160) rfl (by decide) (fun c1 => absurd c1 (by decide)) (fun _ => ?_)
          refine q_sipush hJ (v := (-1001)) dL_does_160 (q := 163) rfl (by decide) ?_
          refine q_goto hJ (tgt := 192) dL_does_163 (by decide) ?_
          refine q_icmp_ne hJ (tgt := 199) dL_does_192 (q := 195) rfl (by decide) (fun c4 => absurd rfl c4) (fun _ => ?_)
          refine q_iconst hJ (v := 1) dL_does_195 (q := 196) rfl (by decide) ?_
          refine q_goto hJ (tgt := 200) dL_does_196 (by decide) ?_
          refine q_iret hM dL_does_200 rfl (by decide) ?_
          exact ⟨rfl, rfl, _, hO1, hA⟩
        · have hjm : jr < aM A := by omega
          by_cases hb : aU A jr 10 = 1
          · refine q_aload_n hJ dL_does_137 (q := 138) rfl rfl rfl ?_
            refine q_iload hJ dL_does_138 (q := 140) rfl rfl ?_
            refine q_bipush hJ (v := 10) dL_does_140 (q := 142) rfl (by decide) ?_
            refine q_callV hJ dL_does_142 (q := 145) rfl ((O_rule (nI jr) 10 hO).val (rul_b hjm hMl hb (by decide))) imX10_rule ln_L_26 ka_x (by decide) rfl rfl rfl rfl (Nat.le_of_ble_eq_true rfl) (by decide) (by decide) rfl rfl (fun rv gv Iv Rv hv => ?_)
            obtain ⟨rfl, rfl, rfl, rfl⟩ := hv
            refine q_istore hJ dL_does_145 (q := 147) rfl (by decide) ?_
            refine q_aload_n hJ dL_does_147 (q := 148) rfl rfl rfl ?_
            refine q_iload hJ dL_does_148 (q := 150) rfl rfl ?_
            refine q_iload hJ dL_does_150 (q := 152) rfl rfl ?_
            refine q_callV hJ dL_does_152 (q := 155) rfl ((O_put (nI jr) 1 (by decide) hO).valQ (put_s hjm hMl hb)) imX10_put ln_L_92 ka_x (by decide) rfl rfl rfl rfl (Nat.le_of_ble_eq_true rfl) (by decide) (by decide) rfl rfl (fun rv gv Iv Rv hv => ?_)
            obtain ⟨rfl, rfl, ⟨hY1, hN1⟩, hT1⟩ := hv
            have hO1 := hN1 (put_no hMl (by omega) (fun _ => hb))
            refine q_iload hJ dL_does_155 (q := 157) rfl rfl ?_
            refine q_if_ge hJ (tgt := 166) dL_does_157 (q := 160) rfl (by decide) (fun _ => ?_) (fun c1 => absurd (by decide : (0 : Int32) ≤ 1) c1)
            refine q_iload hJ dL_does_166 (q := 168) rfl rfl ?_
            refine q_iload hJ dL_does_168 (q := 170) rfl rfl ?_
            refine q_if_eq hJ (tgt := 177) dL_does_170 (q := 173) rfl (by decide) (fun c2 => absurd c2 (by decide)) (fun _ => ?_)
            refine q_iconst hJ (v := 1) dL_does_173 (q := 174) rfl (by decide) ?_
            refine q_goto hJ (tgt := 178) dL_does_174 (by decide) ?_
            refine q_icmp_ne hJ (tgt := 187) dL_does_178 (q := 181) rfl (by decide) (fun c3 => absurd rfl c3) (fun _ => ?_)
            refine q_sipush hJ (v := (-1006)) dL_does_181 (q := 184) rfl (by decide) ?_
            refine q_goto hJ (tgt := 192) dL_does_184 (by decide) ?_
            refine q_icmp_ne hJ (tgt := 199) dL_does_192 (q := 195) rfl (by decide) (fun c4 => absurd rfl c4) (fun _ => ?_)
            refine q_iconst hJ (v := 1) dL_does_195 (q := 196) rfl (by decide) ?_
            refine q_goto hJ (tgt := 200) dL_does_196 (by decide) ?_
            refine q_iret hM dL_does_200 rfl (by decide) ?_
            exact ⟨rfl, rfl, _, hO1, hA⟩
          · have hnb := hb
            have hb : aU A jr 10 = 0 := (hA.1.2.1 jr hjm).2.2.resolve_right hb
            refine q_aload_n hJ dL_does_137 (q := 138) rfl rfl rfl ?_
            refine q_iload hJ dL_does_138 (q := 140) rfl rfl ?_
            refine q_bipush hJ (v := 10) dL_does_140 (q := 142) rfl (by decide) ?_
            refine q_callV hJ dL_does_142 (q := 145) rfl ((O_rule (nI jr) 10 hO).val (rul_b hjm hMl hb (by decide))) imX10_rule ln_L_26 ka_x (by decide) rfl rfl rfl rfl (Nat.le_of_ble_eq_true rfl) (by decide) (by decide) rfl rfl (fun rv gv Iv Rv hv => ?_)
            obtain ⟨rfl, rfl, rfl, rfl⟩ := hv
            refine q_istore hJ dL_does_145 (q := 147) rfl (by decide) ?_
            refine q_aload_n hJ dL_does_147 (q := 148) rfl rfl rfl ?_
            refine q_iload hJ dL_does_148 (q := 150) rfl rfl ?_
            refine q_iload hJ dL_does_150 (q := 152) rfl rfl ?_
            refine q_callV hJ dL_does_152 (q := 155) rfl ((O_put (nI jr) 1 (by decide) hO).valQ (put_d hjm hMl hnb)) imX10_put ln_L_92 ka_x (by decide) rfl rfl rfl rfl (Nat.le_of_ble_eq_true rfl) (by decide) (by decide) rfl rfl (fun rv gv Iv Rv hv => ?_)
            obtain ⟨rfl, rfl, ⟨hY1, hN1⟩, hT1⟩ := hv
            have hO1 := hY1 (put_ok hjm hMl hnb)
            rw [nI_clamp (by omega)] at hO1
            refine q_iload hJ dL_does_155 (q := 157) rfl rfl ?_
            refine q_if_ge hJ (tgt := 166) dL_does_157 (q := 160) rfl (by decide) (fun _ => ?_) (fun c1 => absurd (by decide : (0 : Int32) ≤ 0) c1)
            refine q_iload hJ dL_does_166 (q := 168) rfl rfl ?_
            refine q_iload hJ dL_does_168 (q := 170) rfl rfl ?_
            refine q_if_eq hJ (tgt := 177) dL_does_170 (q := 173) rfl (by decide) (fun c2 => absurd c2 (by decide)) (fun _ => ?_)
            refine q_iconst hJ (v := 1) dL_does_173 (q := 174) rfl (by decide) ?_
            refine q_goto hJ (tgt := 178) dL_does_174 (by decide) ?_
            refine q_icmp_ne hJ (tgt := 187) dL_does_178 (q := 181) rfl (by decide) (fun _ => ?_) (fun c3 => absurd c3 (by decide))
            refine q_aload_n hJ dL_does_187 (q := 188) rfl rfl rfl ?_
            refine q_iconst hJ (v := 2) dL_does_188 (q := 189) rfl (by decide) ?_
            refine q_callV hJ dL_does_189 (q := 192) rfl ((O_total 2 (by decide) (by decide) hO1).val (w := nI (coF (fun j => putU A jr 1 j 10) (aM A))) rfl) imX10_total ln_L_14 ka_x (by decide) rfl rfl rfl rfl (Nat.le_of_ble_eq_true rfl) (by decide) (by decide) rfl rfl (fun rv gv Iv Rv hv => ?_)
            obtain ⟨rfl, rfl, rfl, rfl⟩ := hv
            refine q_icmp_ne hJ (tgt := 199) dL_does_192 (q := 195) rfl (by decide) (fun c4 => absurd rfl c4) (fun _ => ?_)
            refine q_iconst hJ (v := 1) dL_does_195 (q := 196) rfl (by decide) ?_
            refine q_goto hJ (tgt := 200) dL_does_196 (by decide) ?_
            refine q_iret hM dL_does_200 rfl (by decide) ?_
            exact ⟨rfl, rfl, _, hO1, (hA.put (by decide))⟩
    have set9 : ∀ (s g w : Nat), (s = 0 ∧ w = 0 ∧ 1 ≤ g ∧ g ≤ 8) ∨ (s = 1 ∧ w = 1 ∧ g < 2) → ∀ (l5 l6 l7 : Option Value), J 0 0 244 [some (.ref 0), some (.ref 317), some (.int v), some (.int (nI (aN A))), some (.int (k)), l5, l6, l7, some (.int (nI s)), some (.int (aS A w)), some (.int (nI g))] [] g0 I R := by
      rintro s g w (⟨rfl, rfl, hg1, hg8⟩ | ⟨rfl, rfl, hg2⟩) l5 l6 l7
      · have hin : ¬ (if (0 : Int32) = 0 then inR (nI g) 1 8 else inR (nI g) 0 1) = 0 := by rw [if_pos (by decide)]; exact in_18 hg1 hg8
        by_cases hs : aS A 0 = nI g
        · refine q_aload_n hJ dL_does_244 (q := 245) rfl rfl rfl ?_
          refine q_iload hJ dL_does_245 (q := 247) rfl rfl ?_
          refine q_iload hJ dL_does_247 (q := 249) rfl rfl ?_
          refine q_callV hJ dL_does_249 (q := 252) rfl ((O_set 0 (nI g) hO).valQ (set_s (by decide) hin hs)) imX10_set ln_L_96 ka_x (by decide) rfl rfl rfl rfl (Nat.le_of_ble_eq_true rfl) (by decide) (by decide) rfl rfl (fun rv gv Iv Rv hv => ?_)
          obtain ⟨rfl, rfl, ⟨hY1, hN1⟩, hT1⟩ := hv
          have hO1 := hN1 (fun z => z.2.2 hs)
          refine q_iload hJ dL_does_252 (q := 254) rfl rfl ?_
          refine q_iload hJ dL_does_254 (q := 256) rfl rfl ?_
          refine q_icmp_ne hJ (tgt := 265) dL_does_256 (q := 259) rfl (by decide) (fun c1 => absurd hs c1) (fun _ => ?_)
          refine q_sipush hJ (v := (-1006)) dL_does_259 (q := 262) rfl (by decide) ?_
          refine q_goto hJ (tgt := 267) dL_does_262 (by decide) ?_
          refine q_icmp_ne hJ (tgt := 287) dL_does_267 (q := 270) rfl (by decide) (fun c2 => absurd rfl c2) (fun _ => ?_)
          refine q_aload_n hJ dL_does_270 (q := 271) rfl rfl rfl ?_
          refine q_iconst hJ (v := 3) dL_does_271 (q := 272) rfl (by decide) ?_
          refine q_iload hJ dL_does_272 (q := 274) rfl rfl ?_
          refine q_iadd hJ dL_does_274 (q := 275) rfl ?_
          refine q_callV hJ dL_does_275 (q := 278) rfl ((O_total 3 (by decide) (by decide) hO1).val (w := nI g) hs) imX10_total ln_L_14 ka_x (by decide) rfl rfl rfl rfl (Nat.le_of_ble_eq_true rfl) (by decide) (by decide) rfl rfl (fun rv gv Iv Rv hv => ?_)
          obtain ⟨rfl, rfl, rfl, rfl⟩ := hv
          refine q_iload hJ dL_does_278 (q := 280) rfl rfl ?_
          refine q_icmp_ne hJ (tgt := 287) dL_does_280 (q := 283) rfl (by decide) (fun c3 => absurd rfl c3) (fun _ => ?_)
          refine q_iconst hJ (v := 1) dL_does_283 (q := 284) rfl (by decide) ?_
          refine q_goto hJ (tgt := 288) dL_does_284 (by decide) ?_
          refine q_iret hM dL_does_288 rfl (by decide) ?_
          exact ⟨rfl, rfl, _, hO1, hA⟩
        · refine q_aload_n hJ dL_does_244 (q := 245) rfl rfl rfl ?_
          refine q_iload hJ dL_does_245 (q := 247) rfl rfl ?_
          refine q_iload hJ dL_does_247 (q := 249) rfl rfl ?_
          refine q_callV hJ dL_does_249 (q := 252) rfl ((O_set 0 (nI g) hO).valQ (set_d (by decide) hin hs)) imX10_set ln_L_96 ka_x (by decide) rfl rfl rfl rfl (Nat.le_of_ble_eq_true rfl) (by decide) (by decide) rfl rfl (fun rv gv Iv Rv hv => ?_)
          obtain ⟨rfl, rfl, ⟨hY1, hN1⟩, hT1⟩ := hv
          have hO1 := hY1 ⟨by decide, hin, hs⟩
          refine q_iload hJ dL_does_252 (q := 254) rfl rfl ?_
          refine q_iload hJ dL_does_254 (q := 256) rfl rfl ?_
          refine q_icmp_ne hJ (tgt := 265) dL_does_256 (q := 259) rfl (by decide) (fun _ => ?_) (fun c1 => absurd c1 hs)
          refine q_iload hJ dL_does_265 (q := 267) rfl rfl ?_
          refine q_icmp_ne hJ (tgt := 287) dL_does_267 (q := 270) rfl (by decide) (fun c2 => absurd rfl c2) (fun _ => ?_)
          refine q_aload_n hJ dL_does_270 (q := 271) rfl rfl rfl ?_
          refine q_iconst hJ (v := 3) dL_does_271 (q := 272) rfl (by decide) ?_
          refine q_iload hJ dL_does_272 (q := 274) rfl rfl ?_
          refine q_iadd hJ dL_does_274 (q := 275) rfl ?_
          refine q_callV hJ dL_does_275 (q := 278) rfl ((O_total 3 (by decide) (by decide) hO1).val (w := nI g) rfl) imX10_total ln_L_14 ka_x (by decide) rfl rfl rfl rfl (Nat.le_of_ble_eq_true rfl) (by decide) (by decide) rfl rfl (fun rv gv Iv Rv hv => ?_)
          obtain ⟨rfl, rfl, rfl, rfl⟩ := hv
          refine q_iload hJ dL_does_278 (q := 280) rfl rfl ?_
          refine q_icmp_ne hJ (tgt := 287) dL_does_280 (q := 283) rfl (by decide) (fun c3 => absurd rfl c3) (fun _ => ?_)
          refine q_iconst hJ (v := 1) dL_does_283 (q := 284) rfl (by decide) ?_
          refine q_goto hJ (tgt := 288) dL_does_284 (by decide) ?_
          refine q_iret hM dL_does_288 rfl (by decide) ?_
          exact ⟨rfl, rfl, _, hO1, (hA.set0 hg1 hg8)⟩
      · have hin : ¬ (if (1 : Int32) = 0 then inR (nI g) 1 8 else inR (nI g) 0 1) = 0 := by rw [if_neg (by decide)]; exact in_lt (n := 1) (by omega) (by decide) rfl
        have hg01 : nI g = 0 ∨ nI g = 1 := by
          rcases (show g = 0 ∨ g = 1 by omega) with rfl | rfl
          · exact Or.inl rfl
          · exact Or.inr rfl
        by_cases hs : aS A 1 = nI g
        · refine q_aload_n hJ dL_does_244 (q := 245) rfl rfl rfl ?_
          refine q_iload hJ dL_does_245 (q := 247) rfl rfl ?_
          refine q_iload hJ dL_does_247 (q := 249) rfl rfl ?_
          refine q_callV hJ dL_does_249 (q := 252) rfl ((O_set 1 (nI g) hO).valQ (set_s (by decide) hin hs)) imX10_set ln_L_96 ka_x (by decide) rfl rfl rfl rfl (Nat.le_of_ble_eq_true rfl) (by decide) (by decide) rfl rfl (fun rv gv Iv Rv hv => ?_)
          obtain ⟨rfl, rfl, ⟨hY1, hN1⟩, hT1⟩ := hv
          have hO1 := hN1 (fun z => z.2.2 hs)
          refine q_iload hJ dL_does_252 (q := 254) rfl rfl ?_
          refine q_iload hJ dL_does_254 (q := 256) rfl rfl ?_
          refine q_icmp_ne hJ (tgt := 265) dL_does_256 (q := 259) rfl (by decide) (fun c1 => absurd hs c1) (fun _ => ?_)
          refine q_sipush hJ (v := (-1006)) dL_does_259 (q := 262) rfl (by decide) ?_
          refine q_goto hJ (tgt := 267) dL_does_262 (by decide) ?_
          refine q_icmp_ne hJ (tgt := 287) dL_does_267 (q := 270) rfl (by decide) (fun c2 => absurd rfl c2) (fun _ => ?_)
          refine q_aload_n hJ dL_does_270 (q := 271) rfl rfl rfl ?_
          refine q_iconst hJ (v := 3) dL_does_271 (q := 272) rfl (by decide) ?_
          refine q_iload hJ dL_does_272 (q := 274) rfl rfl ?_
          refine q_iadd hJ dL_does_274 (q := 275) rfl ?_
          refine q_callV hJ dL_does_275 (q := 278) rfl ((O_total 4 (by decide) (by decide) hO1).val (w := nI g) hs) imX10_total ln_L_14 ka_x (by decide) rfl rfl rfl rfl (Nat.le_of_ble_eq_true rfl) (by decide) (by decide) rfl rfl (fun rv gv Iv Rv hv => ?_)
          obtain ⟨rfl, rfl, rfl, rfl⟩ := hv
          refine q_iload hJ dL_does_278 (q := 280) rfl rfl ?_
          refine q_icmp_ne hJ (tgt := 287) dL_does_280 (q := 283) rfl (by decide) (fun c3 => absurd rfl c3) (fun _ => ?_)
          refine q_iconst hJ (v := 1) dL_does_283 (q := 284) rfl (by decide) ?_
          refine q_goto hJ (tgt := 288) dL_does_284 (by decide) ?_
          refine q_iret hM dL_does_288 rfl (by decide) ?_
          exact ⟨rfl, rfl, _, hO1, hA⟩
        · refine q_aload_n hJ dL_does_244 (q := 245) rfl rfl rfl ?_
          refine q_iload hJ dL_does_245 (q := 247) rfl rfl ?_
          refine q_iload hJ dL_does_247 (q := 249) rfl rfl ?_
          refine q_callV hJ dL_does_249 (q := 252) rfl ((O_set 1 (nI g) hO).valQ (set_d (by decide) hin hs)) imX10_set ln_L_96 ka_x (by decide) rfl rfl rfl rfl (Nat.le_of_ble_eq_true rfl) (by decide) (by decide) rfl rfl (fun rv gv Iv Rv hv => ?_)
          obtain ⟨rfl, rfl, ⟨hY1, hN1⟩, hT1⟩ := hv
          have hO1 := hY1 ⟨by decide, hin, hs⟩
          refine q_iload hJ dL_does_252 (q := 254) rfl rfl ?_
          refine q_iload hJ dL_does_254 (q := 256) rfl rfl ?_
          refine q_icmp_ne hJ (tgt := 265) dL_does_256 (q := 259) rfl (by decide) (fun _ => ?_) (fun c1 => absurd c1 hs)
          refine q_iload hJ dL_does_265 (q := 267) rfl rfl ?_
          refine q_icmp_ne hJ (tgt := 287) dL_does_267 (q := 270) rfl (by decide) (fun c2 => absurd rfl c2) (fun _ => ?_)
          refine q_aload_n hJ dL_does_270 (q := 271) rfl rfl rfl ?_
          refine q_iconst hJ (v := 3) dL_does_271 (q := 272) rfl (by decide) ?_
          refine q_iload hJ dL_does_272 (q := 274) rfl rfl ?_
          refine q_iadd hJ dL_does_274 (q := 275) rfl ?_
          refine q_callV hJ dL_does_275 (q := 278) rfl ((O_total 4 (by decide) (by decide) hO1).val (w := nI g) rfl) imX10_total ln_L_14 ka_x (by decide) rfl rfl rfl rfl (Nat.le_of_ble_eq_true rfl) (by decide) (by decide) rfl rfl (fun rv gv Iv Rv hv => ?_)
          obtain ⟨rfl, rfl, rfl, rfl⟩ := hv
          refine q_iload hJ dL_does_278 (q := 280) rfl rfl ?_
          refine q_icmp_ne hJ (tgt := 287) dL_does_280 (q := 283) rfl (by decide) (fun c3 => absurd rfl c3) (fun _ => ?_)
          refine q_iconst hJ (v := 1) dL_does_283 (q := 284) rfl (by decide) ?_
          refine q_goto hJ (tgt := 288) dL_does_284 (by decide) ?_
          refine q_iret hM dL_does_288 rfl (by decide) ?_
          exact ⟨rfl, rfl, _, hO1, (hA.set1 hg01)⟩
    refine q_iload_n hJ dL_does_45 (q := 46) rfl rfl ?_
    refine q_bipush hJ (v := 16) dL_does_46 (q := 48) rfl (by decide) ?_
    refine q_callS hJ dL_does_48 (q := 51) rfl (S_low _ 16 (by decide) _ _) imL_low ln_L_8 rfl rfl rfl (Nat.le_of_ble_eq_true rfl) (by decide) (by decide) rfl rfl (fun rv gv Iv Rv hv => ?_)
    obtain ⟨js, hjs, rfl, rfl, rfl, rfl⟩ := hv
    by_cases k9_0 : nI js = 0
    · refine q_tswIn hJ (off := 53) (tgt := 104) dL_does_51 (by rw [k9_0]; decide) (by rw [k9_0]; decide) (by rw [k9_0]; decide) (by decide) ?_
      refine q_aload_n hJ dL_does_104 (q := 105) rfl rfl rfl ?_
      refine q_iload_n hJ dL_does_105 (q := 106) rfl rfl ?_
      refine q_callS hJ dL_does_106 (q := 109) rfl (S_rules A v I R hO hA) imL_rules ln_L_88 rfl rfl rfl (Nat.le_of_ble_eq_true rfl) (by decide) (by decide) rfl rfl (fun rv gv Iv Rv hv => ?_)
      obtain ⟨rfl, rfl, A2, hO2, hA2⟩ := hv
      refine q_iret hM dL_does_109 rfl (by decide) ?_
      exact ⟨rfl, rfl, A2, hO2, hA2⟩
    by_cases k9_1 : nI js = 1
    · refine q_tswIn hJ (off := 53) (tgt := 104) dL_does_51 (by rw [k9_1]; decide) (by rw [k9_1]; decide) (by rw [k9_1]; decide) (by decide) ?_
      refine q_aload_n hJ dL_does_104 (q := 105) rfl rfl rfl ?_
      refine q_iload_n hJ dL_does_105 (q := 106) rfl rfl ?_
      refine q_callS hJ dL_does_106 (q := 109) rfl (S_rules A v I R hO hA) imL_rules ln_L_88 rfl rfl rfl (Nat.le_of_ble_eq_true rfl) (by decide) (by decide) rfl rfl (fun rv gv Iv Rv hv => ?_)
      obtain ⟨rfl, rfl, A2, hO2, hA2⟩ := hv
      refine q_iret hM dL_does_109 rfl (by decide) ?_
      exact ⟨rfl, rfl, A2, hO2, hA2⟩
    by_cases k9_2 : nI js = 2
    · refine q_tswIn hJ (off := 53) (tgt := 104) dL_does_51 (by rw [k9_2]; decide) (by rw [k9_2]; decide) (by rw [k9_2]; decide) (by decide) ?_
      refine q_aload_n hJ dL_does_104 (q := 105) rfl rfl rfl ?_
      refine q_iload_n hJ dL_does_105 (q := 106) rfl rfl ?_
      refine q_callS hJ dL_does_106 (q := 109) rfl (S_rules A v I R hO hA) imL_rules ln_L_88 rfl rfl rfl (Nat.le_of_ble_eq_true rfl) (by decide) (by decide) rfl rfl (fun rv gv Iv Rv hv => ?_)
      obtain ⟨rfl, rfl, A2, hO2, hA2⟩ := hv
      refine q_iret hM dL_does_109 rfl (by decide) ?_
      exact ⟨rfl, rfl, A2, hO2, hA2⟩
    by_cases k9_3 : nI js = 3
    · refine q_tswIn hJ (off := 59) (tgt := 110) dL_does_51 (by rw [k9_3]; decide) (by rw [k9_3]; decide) (by rw [k9_3]; decide) (by decide) ?_
      refine q_iload_n hJ dL_does_110 (q := 111) rfl rfl ?_
      refine q_iconst hJ (v := 5) dL_does_111 (q := 112) rfl (by decide) ?_
      refine q_ishr hJ dL_does_112 (q := 113) rfl ?_
      refine q_bipush hJ (v := 13) dL_does_113 (q := 115) rfl (by decide) ?_
      refine q_callS hJ dL_does_115 (q := 118) rfl (S_low _ 13 (by decide) _ _) imL_low ln_L_8 rfl rfl rfl (Nat.le_of_ble_eq_true rfl) (by decide) (by decide) rfl rfl (fun rv gv Iv Rv hv => ?_)
      obtain ⟨jr, hjr, rfl, rfl, rfl, rfl⟩ := hv
      refine q_istore hJ dL_does_118 (q := 120) rfl (by decide) ?_
      refine q_iload_n hJ dL_does_120 (q := 121) rfl rfl ?_
      refine q_bipush hJ (v := 9) dL_does_121 (q := 123) rfl (by decide) ?_
      refine q_ishr hJ dL_does_123 (q := 124) rfl ?_
      refine q_iconst hJ (v := 1) dL_does_124 (q := 125) rfl (by decide) ?_
      refine q_iand hJ dL_does_125 (q := 126) rfl ?_
      obtain ⟨b9, hb9, eb9⟩ := pk_andE (v >>> ((9 : Int32) &&& 31)) (m := 1) 1 (by decide)
      rw [eb9]
      refine q_iconst hJ (v := 1) dL_does_126 (q := 127) rfl (by decide) ?_
      rcases (show b9 = 0 ∨ b9 = 1 by omega) with rfl | rfl
      · refine q_icmp_ne hJ (tgt := 134) dL_does_127 (q := 130) rfl (by decide) (fun _ => ?_) (fun c => absurd c (by decide))
        refine q_iconst hJ (v := 0) dL_does_134 (q := 135) rfl (by decide) ?_
        refine q_istore hJ dL_does_135 (q := 137) rfl (by decide) ?_
        exact put9 0 jr (by decide) hjr
      · refine q_icmp_ne hJ (tgt := 134) dL_does_127 (q := 130) rfl (by decide) (fun c => absurd rfl c) (fun _ => ?_)
        refine q_iconst hJ (v := 1) dL_does_130 (q := 131) rfl (by decide) ?_
        refine q_goto hJ (tgt := 135) dL_does_131 (by decide) ?_
        refine q_istore hJ dL_does_135 (q := 137) rfl (by decide) ?_
        exact put9 1 jr (by decide) hjr
    by_cases k9_4 : nI js = 4
    · refine q_tswIn hJ (off := 150) (tgt := 201) dL_does_51 (by rw [k9_4]; decide) (by rw [k9_4]; decide) (by rw [k9_4]; decide) (by decide) ?_
      refine q_iload_n hJ dL_does_201 (q := 202) rfl rfl ?_
      refine q_iconst hJ (v := 5) dL_does_202 (q := 203) rfl (by decide) ?_
      refine q_ishr hJ dL_does_203 (q := 204) rfl ?_
      refine q_iconst hJ (v := 1) dL_does_204 (q := 205) rfl (by decide) ?_
      refine q_iand hJ dL_does_205 (q := 206) rfl ?_
      obtain ⟨s9, hs9, es9⟩ := pk_andE (v >>> ((5 : Int32) &&& 31)) (m := 1) 1 (by decide)
      rw [es9]
      rcases (show s9 = 0 ∨ s9 = 1 by omega) with rfl | rfl
      · refine q_istore hJ dL_does_206 (q := 208) rfl (by decide) ?_
        refine q_aload_n hJ dL_does_208 (q := 209) rfl rfl rfl ?_
        refine q_iconst hJ (v := 3) dL_does_209 (q := 210) rfl (by decide) ?_
        refine q_iload hJ dL_does_210 (q := 212) rfl rfl ?_
        refine q_iadd hJ dL_does_212 (q := 213) rfl ?_
        refine q_callV hJ dL_does_213 (q := 216) rfl ((O_total 3 (by decide) (by decide) hO).val (w := aS A 0) rfl) imX10_total ln_L_14 ka_x (by decide) rfl rfl rfl rfl (Nat.le_of_ble_eq_true rfl) (by decide) (by decide) rfl rfl (fun rv gv Iv Rv hv => ?_)
        obtain ⟨rfl, rfl, rfl, rfl⟩ := hv
        refine q_istore hJ dL_does_216 (q := 218) rfl (by decide) ?_
        refine q_iload hJ dL_does_218 (q := 220) rfl rfl ?_
        refine q_iconst hJ (v := 1) dL_does_220 (q := 221) rfl (by decide) ?_
        refine q_icmp_ne hJ (tgt := 233) dL_does_221 (q := 224) rfl (by decide) (fun _ => ?_) (fun c7 => absurd c7 (by decide))
        refine q_iconst hJ (v := 1) dL_does_233 (q := 234) rfl (by decide) ?_
        refine q_iload_n hJ dL_does_234 (q := 235) rfl rfl ?_
        refine q_bipush hJ (v := 6) dL_does_235 (q := 237) rfl (by decide) ?_
        refine q_ishr hJ dL_does_237 (q := 238) rfl ?_
        refine q_bipush hJ (v := 7) dL_does_238 (q := 240) rfl (by decide) ?_
        refine q_iand hJ dL_does_240 (q := 241) rfl ?_
        obtain ⟨g9, hg9, eg9⟩ := pk_andE (v >>> ((6 : Int32) &&& 31)) (m := 7) 3 (by decide)
        rw [eg9]
        refine q_iadd hJ dL_does_241 (q := 242) rfl ?_
        rw [show (1 : Int32) + nI g9 = nI (1 + g9) from nI_add 1 g9]
        refine q_istore hJ dL_does_242 (q := 244) rfl (by decide) ?_
        exact set9 0 _ 0 (Or.inl ⟨rfl, rfl, by omega, by omega⟩) _ _ _
      · refine q_istore hJ dL_does_206 (q := 208) rfl (by decide) ?_
        refine q_aload_n hJ dL_does_208 (q := 209) rfl rfl rfl ?_
        refine q_iconst hJ (v := 3) dL_does_209 (q := 210) rfl (by decide) ?_
        refine q_iload hJ dL_does_210 (q := 212) rfl rfl ?_
        refine q_iadd hJ dL_does_212 (q := 213) rfl ?_
        refine q_callV hJ dL_does_213 (q := 216) rfl ((O_total 4 (by decide) (by decide) hO).val (w := aS A 1) rfl) imX10_total ln_L_14 ka_x (by decide) rfl rfl rfl rfl (Nat.le_of_ble_eq_true rfl) (by decide) (by decide) rfl rfl (fun rv gv Iv Rv hv => ?_)
        obtain ⟨rfl, rfl, rfl, rfl⟩ := hv
        refine q_istore hJ dL_does_216 (q := 218) rfl (by decide) ?_
        refine q_iload hJ dL_does_218 (q := 220) rfl rfl ?_
        refine q_iconst hJ (v := 1) dL_does_220 (q := 221) rfl (by decide) ?_
        refine q_icmp_ne hJ (tgt := 233) dL_does_221 (q := 224) rfl (by decide) (fun c7 => absurd rfl c7) (fun _ => ?_)
        refine q_iload_n hJ dL_does_224 (q := 225) rfl rfl ?_
        refine q_bipush hJ (v := 6) dL_does_225 (q := 227) rfl (by decide) ?_
        refine q_ishr hJ dL_does_227 (q := 228) rfl ?_
        refine q_iconst hJ (v := 1) dL_does_228 (q := 229) rfl (by decide) ?_
        refine q_iand hJ dL_does_229 (q := 230) rfl ?_
        obtain ⟨g9, hg9, eg9⟩ := pk_andE (v >>> ((6 : Int32) &&& 31)) (m := 1) 1 (by decide)
        rw [eg9]
        refine q_goto hJ (tgt := 242) dL_does_230 (by decide) ?_
        refine q_istore hJ dL_does_242 (q := 244) rfl (by decide) ?_
        exact set9 1 _ 1 (Or.inr ⟨rfl, rfl, by omega⟩) _ _ _
    by_cases k9_5 : nI js = 5
    · refine q_tswIn hJ (off := 238) (tgt := 289) dL_does_51 (by rw [k9_5]; decide) (by rw [k9_5]; decide) (by rw [k9_5]; decide) (by decide) ?_
      refine q_aload_n hJ dL_does_289 (q := 290) rfl rfl rfl ?_
      refine q_aload_n hJ dL_does_290 (q := 291) rfl rfl rfl ?_
      refine q_iload hJ dL_does_291 (q := 293) rfl rfl ?_
      refine q_callS hJ dL_does_293 (q := 296) rfl (S_deletes A k I R hO hA) imL_deletes ln_L_99 rfl rfl rfl (Nat.le_of_ble_eq_true rfl) (by decide) (by decide) rfl rfl (fun rv gv Iv Rv hv => ?_)
      obtain ⟨rfl, rfl, A2, hO2, hA2⟩ := hv
      refine q_iret hM dL_does_296 rfl (by decide) ?_
      exact ⟨rfl, rfl, A2, hO2, hA2⟩
    by_cases k9_6 : nI js = 6
    · refine q_tswIn hJ (off := 246) (tgt := 297) dL_does_51 (by rw [k9_6]; decide) (by rw [k9_6]; decide) (by rw [k9_6]; decide) (by decide) ?_
      refine q_aload_n hJ dL_does_297 (q := 298) rfl rfl rfl ?_
      refine q_aload_n hJ dL_does_298 (q := 299) rfl rfl rfl ?_
      refine q_iload_n hJ dL_does_299 (q := 300) rfl rfl ?_
      refine q_iload_n hJ dL_does_300 (q := 301) rfl rfl ?_
      refine q_bipush hJ (v := 7) dL_does_301 (q := 303) rfl (by decide) ?_
      refine q_ishr hJ dL_does_303 (q := 304) rfl ?_
      refine q_iload_n hJ dL_does_304 (q := 305) rfl rfl ?_
      refine q_bipush hJ (v := 6) dL_does_305 (q := 307) rfl (by decide) ?_
      refine q_ishr hJ dL_does_307 (q := 308) rfl ?_
      refine q_iconst hJ (v := 1) dL_does_308 (q := 309) rfl (by decide) ?_
      refine q_iand hJ dL_does_309 (q := 310) rfl ?_
      refine q_if_ne hJ (tgt := 318) dL_does_310 (q := 313) rfl (by decide) (fun c8 => ?_) (fun c8 => ?_)
      · refine q_bipush hJ (v := 100) dL_does_318 (q := 320) rfl (by decide) ?_
        refine q_callS hJ dL_does_320 (q := 323) rfl (S_low _ 100 (by decide) _ _) imL_low ln_L_8 rfl rfl rfl (Nat.le_of_ble_eq_true rfl) (by decide) (by decide) rfl rfl (fun rv gv Iv Rv hv => ?_)
        obtain ⟨jk, hjk, rfl, rfl, rfl, rfl⟩ := hv
        refine q_callS hJ dL_does_323 (q := 326) rfl (S_inserts A v jk (by omega) I R hO hA) imL_inserts ln_L_102 rfl rfl rfl (Nat.le_of_ble_eq_true rfl) (by decide) (by decide) rfl rfl (fun rv gv Iv Rv hv => ?_)
        obtain ⟨rfl, rfl, A2, hO2, hA2⟩ := hv
        refine q_iret hM dL_does_326 rfl (by decide) ?_
        exact ⟨rfl, rfl, A2, hO2, hA2⟩
      · refine q_bipush hJ (v := 12) dL_does_313 (q := 315) rfl (by decide) ?_
        refine q_goto hJ (tgt := 320) dL_does_315 (by decide) ?_
        refine q_callS hJ dL_does_320 (q := 323) rfl (S_low _ 12 (by decide) _ _) imL_low ln_L_8 rfl rfl rfl (Nat.le_of_ble_eq_true rfl) (by decide) (by decide) rfl rfl (fun rv gv Iv Rv hv => ?_)
        obtain ⟨jk, hjk, rfl, rfl, rfl, rfl⟩ := hv
        refine q_callS hJ dL_does_323 (q := 326) rfl (S_inserts A v jk (by omega) I R hO hA) imL_inserts ln_L_102 rfl rfl rfl (Nat.le_of_ble_eq_true rfl) (by decide) (by decide) rfl rfl (fun rv gv Iv Rv hv => ?_)
        obtain ⟨rfl, rfl, A2, hO2, hA2⟩ := hv
        refine q_iret hM dL_does_326 rfl (by decide) ?_
        exact ⟨rfl, rfl, A2, hO2, hA2⟩
    by_cases k9_7 : nI js = 7
    · refine q_tswIn hJ (off := 246) (tgt := 297) dL_does_51 (by rw [k9_7]; decide) (by rw [k9_7]; decide) (by rw [k9_7]; decide) (by decide) ?_
      refine q_aload_n hJ dL_does_297 (q := 298) rfl rfl rfl ?_
      refine q_aload_n hJ dL_does_298 (q := 299) rfl rfl rfl ?_
      refine q_iload_n hJ dL_does_299 (q := 300) rfl rfl ?_
      refine q_iload_n hJ dL_does_300 (q := 301) rfl rfl ?_
      refine q_bipush hJ (v := 7) dL_does_301 (q := 303) rfl (by decide) ?_
      refine q_ishr hJ dL_does_303 (q := 304) rfl ?_
      refine q_iload_n hJ dL_does_304 (q := 305) rfl rfl ?_
      refine q_bipush hJ (v := 6) dL_does_305 (q := 307) rfl (by decide) ?_
      refine q_ishr hJ dL_does_307 (q := 308) rfl ?_
      refine q_iconst hJ (v := 1) dL_does_308 (q := 309) rfl (by decide) ?_
      refine q_iand hJ dL_does_309 (q := 310) rfl ?_
      refine q_if_ne hJ (tgt := 318) dL_does_310 (q := 313) rfl (by decide) (fun c8 => ?_) (fun c8 => ?_)
      · refine q_bipush hJ (v := 100) dL_does_318 (q := 320) rfl (by decide) ?_
        refine q_callS hJ dL_does_320 (q := 323) rfl (S_low _ 100 (by decide) _ _) imL_low ln_L_8 rfl rfl rfl (Nat.le_of_ble_eq_true rfl) (by decide) (by decide) rfl rfl (fun rv gv Iv Rv hv => ?_)
        obtain ⟨jk, hjk, rfl, rfl, rfl, rfl⟩ := hv
        refine q_callS hJ dL_does_323 (q := 326) rfl (S_inserts A v jk (by omega) I R hO hA) imL_inserts ln_L_102 rfl rfl rfl (Nat.le_of_ble_eq_true rfl) (by decide) (by decide) rfl rfl (fun rv gv Iv Rv hv => ?_)
        obtain ⟨rfl, rfl, A2, hO2, hA2⟩ := hv
        refine q_iret hM dL_does_326 rfl (by decide) ?_
        exact ⟨rfl, rfl, A2, hO2, hA2⟩
      · refine q_bipush hJ (v := 12) dL_does_313 (q := 315) rfl (by decide) ?_
        refine q_goto hJ (tgt := 320) dL_does_315 (by decide) ?_
        refine q_callS hJ dL_does_320 (q := 323) rfl (S_low _ 12 (by decide) _ _) imL_low ln_L_8 rfl rfl rfl (Nat.le_of_ble_eq_true rfl) (by decide) (by decide) rfl rfl (fun rv gv Iv Rv hv => ?_)
        obtain ⟨jk, hjk, rfl, rfl, rfl, rfl⟩ := hv
        refine q_callS hJ dL_does_323 (q := 326) rfl (S_inserts A v jk (by omega) I R hO hA) imL_inserts ln_L_102 rfl rfl rfl (Nat.le_of_ble_eq_true rfl) (by decide) (by decide) rfl rfl (fun rv gv Iv Rv hv => ?_)
        obtain ⟨rfl, rfl, A2, hO2, hA2⟩ := hv
        refine q_iret hM dL_does_326 rfl (by decide) ?_
        exact ⟨rfl, rfl, A2, hO2, hA2⟩
    by_cases k9_8 : nI js = 8
    · refine q_tswIn hJ (off := 246) (tgt := 297) dL_does_51 (by rw [k9_8]; decide) (by rw [k9_8]; decide) (by rw [k9_8]; decide) (by decide) ?_
      refine q_aload_n hJ dL_does_297 (q := 298) rfl rfl rfl ?_
      refine q_aload_n hJ dL_does_298 (q := 299) rfl rfl rfl ?_
      refine q_iload_n hJ dL_does_299 (q := 300) rfl rfl ?_
      refine q_iload_n hJ dL_does_300 (q := 301) rfl rfl ?_
      refine q_bipush hJ (v := 7) dL_does_301 (q := 303) rfl (by decide) ?_
      refine q_ishr hJ dL_does_303 (q := 304) rfl ?_
      refine q_iload_n hJ dL_does_304 (q := 305) rfl rfl ?_
      refine q_bipush hJ (v := 6) dL_does_305 (q := 307) rfl (by decide) ?_
      refine q_ishr hJ dL_does_307 (q := 308) rfl ?_
      refine q_iconst hJ (v := 1) dL_does_308 (q := 309) rfl (by decide) ?_
      refine q_iand hJ dL_does_309 (q := 310) rfl ?_
      refine q_if_ne hJ (tgt := 318) dL_does_310 (q := 313) rfl (by decide) (fun c8 => ?_) (fun c8 => ?_)
      · refine q_bipush hJ (v := 100) dL_does_318 (q := 320) rfl (by decide) ?_
        refine q_callS hJ dL_does_320 (q := 323) rfl (S_low _ 100 (by decide) _ _) imL_low ln_L_8 rfl rfl rfl (Nat.le_of_ble_eq_true rfl) (by decide) (by decide) rfl rfl (fun rv gv Iv Rv hv => ?_)
        obtain ⟨jk, hjk, rfl, rfl, rfl, rfl⟩ := hv
        refine q_callS hJ dL_does_323 (q := 326) rfl (S_inserts A v jk (by omega) I R hO hA) imL_inserts ln_L_102 rfl rfl rfl (Nat.le_of_ble_eq_true rfl) (by decide) (by decide) rfl rfl (fun rv gv Iv Rv hv => ?_)
        obtain ⟨rfl, rfl, A2, hO2, hA2⟩ := hv
        refine q_iret hM dL_does_326 rfl (by decide) ?_
        exact ⟨rfl, rfl, A2, hO2, hA2⟩
      · refine q_bipush hJ (v := 12) dL_does_313 (q := 315) rfl (by decide) ?_
        refine q_goto hJ (tgt := 320) dL_does_315 (by decide) ?_
        refine q_callS hJ dL_does_320 (q := 323) rfl (S_low _ 12 (by decide) _ _) imL_low ln_L_8 rfl rfl rfl (Nat.le_of_ble_eq_true rfl) (by decide) (by decide) rfl rfl (fun rv gv Iv Rv hv => ?_)
        obtain ⟨jk, hjk, rfl, rfl, rfl, rfl⟩ := hv
        refine q_callS hJ dL_does_323 (q := 326) rfl (S_inserts A v jk (by omega) I R hO hA) imL_inserts ln_L_102 rfl rfl rfl (Nat.le_of_ble_eq_true rfl) (by decide) (by decide) rfl rfl (fun rv gv Iv Rv hv => ?_)
        obtain ⟨rfl, rfl, A2, hO2, hA2⟩ := hv
        refine q_iret hM dL_does_326 rfl (by decide) ?_
        exact ⟨rfl, rfl, A2, hO2, hA2⟩
    by_cases k9_9 : nI js = 9
    · refine q_tswIn hJ (off := 246) (tgt := 297) dL_does_51 (by rw [k9_9]; decide) (by rw [k9_9]; decide) (by rw [k9_9]; decide) (by decide) ?_
      refine q_aload_n hJ dL_does_297 (q := 298) rfl rfl rfl ?_
      refine q_aload_n hJ dL_does_298 (q := 299) rfl rfl rfl ?_
      refine q_iload_n hJ dL_does_299 (q := 300) rfl rfl ?_
      refine q_iload_n hJ dL_does_300 (q := 301) rfl rfl ?_
      refine q_bipush hJ (v := 7) dL_does_301 (q := 303) rfl (by decide) ?_
      refine q_ishr hJ dL_does_303 (q := 304) rfl ?_
      refine q_iload_n hJ dL_does_304 (q := 305) rfl rfl ?_
      refine q_bipush hJ (v := 6) dL_does_305 (q := 307) rfl (by decide) ?_
      refine q_ishr hJ dL_does_307 (q := 308) rfl ?_
      refine q_iconst hJ (v := 1) dL_does_308 (q := 309) rfl (by decide) ?_
      refine q_iand hJ dL_does_309 (q := 310) rfl ?_
      refine q_if_ne hJ (tgt := 318) dL_does_310 (q := 313) rfl (by decide) (fun c8 => ?_) (fun c8 => ?_)
      · refine q_bipush hJ (v := 100) dL_does_318 (q := 320) rfl (by decide) ?_
        refine q_callS hJ dL_does_320 (q := 323) rfl (S_low _ 100 (by decide) _ _) imL_low ln_L_8 rfl rfl rfl (Nat.le_of_ble_eq_true rfl) (by decide) (by decide) rfl rfl (fun rv gv Iv Rv hv => ?_)
        obtain ⟨jk, hjk, rfl, rfl, rfl, rfl⟩ := hv
        refine q_callS hJ dL_does_323 (q := 326) rfl (S_inserts A v jk (by omega) I R hO hA) imL_inserts ln_L_102 rfl rfl rfl (Nat.le_of_ble_eq_true rfl) (by decide) (by decide) rfl rfl (fun rv gv Iv Rv hv => ?_)
        obtain ⟨rfl, rfl, A2, hO2, hA2⟩ := hv
        refine q_iret hM dL_does_326 rfl (by decide) ?_
        exact ⟨rfl, rfl, A2, hO2, hA2⟩
      · refine q_bipush hJ (v := 12) dL_does_313 (q := 315) rfl (by decide) ?_
        refine q_goto hJ (tgt := 320) dL_does_315 (by decide) ?_
        refine q_callS hJ dL_does_320 (q := 323) rfl (S_low _ 12 (by decide) _ _) imL_low ln_L_8 rfl rfl rfl (Nat.le_of_ble_eq_true rfl) (by decide) (by decide) rfl rfl (fun rv gv Iv Rv hv => ?_)
        obtain ⟨jk, hjk, rfl, rfl, rfl, rfl⟩ := hv
        refine q_callS hJ dL_does_323 (q := 326) rfl (S_inserts A v jk (by omega) I R hO hA) imL_inserts ln_L_102 rfl rfl rfl (Nat.le_of_ble_eq_true rfl) (by decide) (by decide) rfl rfl (fun rv gv Iv Rv hv => ?_)
        obtain ⟨rfl, rfl, A2, hO2, hA2⟩ := hv
        refine q_iret hM dL_does_326 rfl (by decide) ?_
        exact ⟨rfl, rfl, A2, hO2, hA2⟩
    refine q_tswOut hJ (tgt := 327) dL_does_51 (tsw_out10 k9_0 k9_1 k9_2 k9_3 k9_4 k9_5 k9_6 k9_7 k9_8 k9_9) (by decide) ?_
    refine q_aload_n hJ dL_does_327 (q := 328) rfl rfl rfl ?_
    refine q_aload_n hJ dL_does_328 (q := 329) rfl rfl rfl ?_
    refine q_iload_n hJ dL_does_329 (q := 330) rfl rfl ?_
    refine q_iload hJ dL_does_330 (q := 332) rfl rfl ?_
    refine q_callS hJ dL_does_332 (q := 335) rfl (S_updates A v k I R hO hA) imL_updates ln_L_106 rfl rfl rfl (Nat.le_of_ble_eq_true rfl) (by decide) (by decide) rfl rfl (fun rv gv Iv Rv hv => ?_)
    obtain ⟨rfl, rfl, A2, hO2, hA2⟩ := hv
    refine q_iret hM dL_does_335 rfl (by decide) ?_
    exact ⟨rfl, rfl, A2, hO2, hA2⟩
  refine q_aload_n hJ dL_does_0 (q := 1) rfl rfl rfl ?_
  refine q_iconst hJ (v := 0) dL_does_1 (q := 2) rfl (by decide) ?_
  refine q_callV hJ dL_does_2 (q := 5) rfl ((O_total 0 (by decide) (by decide) hO).val (w := nI (aN A)) rfl) imX10_total ln_L_14 ka_x (by decide) rfl rfl rfl rfl (Nat.le_of_ble_eq_true rfl) (by decide) (by decide) rfl rfl (fun rv gv Iv Rv hv => ?_)
  obtain ⟨rfl, rfl, rfl, rfl⟩ := hv
  refine q_istore_n hJ dL_does_5 (q := 6) rfl (by decide) ?_
  refine q_iload_n hJ dL_does_6 (q := 7) rfl rfl ?_
  refine q_if_le hJ (tgt := 34) dL_does_7 (q := 10) rfl (by decide) (fun c1 => ?_) (fun c1 => ?_)
  · refine q_iload_n hJ dL_does_34 (q := 35) rfl rfl ?_
    refine q_bipush hJ (v := 7) dL_does_35 (q := 37) rfl (by decide) ?_
    refine q_ishr hJ dL_does_37 (q := 38) rfl ?_
    refine q_bipush hJ (v := 100) dL_does_38 (q := 40) rfl (by decide) ?_
    refine q_callS hJ dL_does_40 (q := 43) rfl (S_low _ 100 (by decide) _ _) imL_low ln_L_8 rfl rfl rfl (Nat.le_of_ble_eq_true rfl) (by decide) (by decide) rfl rfl (fun rv gv Iv Rv hv => ?_)
    obtain ⟨j2, hj2, rfl, rfl, rfl, rfl⟩ := hv
    refine q_istore hJ dL_does_43 (q := 45) rfl (by decide) ?_
    exact rest _
  · have hpos : 0 < aN A := Nat.pos_of_ne_zero (fun z => c1 (by rw [z]; decide))
    refine q_iload_n hJ dL_does_10 (q := 11) rfl rfl ?_
    refine q_iconst hJ (v := 4) dL_does_11 (q := 12) rfl (by decide) ?_
    refine q_ishr hJ dL_does_12 (q := 13) rfl ?_
    refine q_bipush hJ (v := 7) dL_does_13 (q := 15) rfl (by decide) ?_
    refine q_iand hJ dL_does_15 (q := 16) rfl ?_
    refine q_if_eq hJ (tgt := 34) dL_does_16 (q := 19) rfl (by decide) (fun c2 => ?_) (fun c2 => ?_)
    · refine q_iload_n hJ dL_does_34 (q := 35) rfl rfl ?_
      refine q_bipush hJ (v := 7) dL_does_35 (q := 37) rfl (by decide) ?_
      refine q_ishr hJ dL_does_37 (q := 38) rfl ?_
      refine q_bipush hJ (v := 100) dL_does_38 (q := 40) rfl (by decide) ?_
      refine q_callS hJ dL_does_40 (q := 43) rfl (S_low _ 100 (by decide) _ _) imL_low ln_L_8 rfl rfl rfl (Nat.le_of_ble_eq_true rfl) (by decide) (by decide) rfl rfl (fun rv gv Iv Rv hv => ?_)
      obtain ⟨j2, hj2, rfl, rfl, rfl, rfl⟩ := hv
      refine q_istore hJ dL_does_43 (q := 45) rfl (by decide) ?_
      exact rest _
    · refine q_aload_n hJ dL_does_19 (q := 20) rfl rfl rfl ?_
      refine q_iload_n hJ dL_does_20 (q := 21) rfl rfl ?_
      refine q_bipush hJ (v := 7) dL_does_21 (q := 23) rfl (by decide) ?_
      refine q_ishr hJ dL_does_23 (q := 24) rfl ?_
      refine q_iload_n hJ dL_does_24 (q := 25) rfl rfl ?_
      refine q_callS hJ dL_does_25 (q := 28) rfl (S_low _ (aN A) ⟨hpos, by omega⟩ I R) imL_low ln_L_8 rfl rfl rfl (Nat.le_of_ble_eq_true rfl) (by decide) (by decide) rfl rfl (fun rv gv Iv Rv hv => ?_)
      obtain ⟨j1, hj1, rfl, rfl, rfl, rfl⟩ := hv
      refine q_callV hJ dL_does_28 (q := 31) rfl ((O_keyAt (nI j1) hO).val (key_in hj1 hN)) imX10_keyAt ln_L_20 ka_x (by decide) rfl rfl rfl rfl (Nat.le_of_ble_eq_true rfl) (by decide) (by decide) rfl rfl (fun rv gv Iv Rv hv => ?_)
      obtain ⟨rfl, rfl, rfl, rfl⟩ := hv
      refine q_goto hJ (tgt := 43) dL_does_31 (by decide) ?_
      refine q_istore hJ dL_does_43 (q := 45) rfl (by decide) ?_
      exact rest _

