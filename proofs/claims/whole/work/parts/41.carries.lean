/-! THE MODEL: an operation is carried out -/
def CanC (A : AS) (ev : Int32) (img : Nat → Int32) : Prop := (ev = 0 ∧ cantA A (img 0) = 1) ∨ ((ev = 1 ∨ ev = 2) ∧ ∃ i, fK A (img 0) = some i)
theorem in_99 {x : Int32} (h : ¬ inR x 0 99 = 0) : ∃ q, q < 100 ∧ x = nI q := by
  obtain ⟨h1, h2⟩ := inR_iff h
  obtain ⟨j, hj, rfl⟩ := nI_of2 (M := 99) (n := 99) rfl h1 (Int32.not_lt.mp h2)
  exact ⟨j, by omega, rfl⟩
theorem cant_1 {A : AS} {key : Int32} (h : cantA A key = 1) : (∃ q, q < 100 ∧ key = nI q) ∧ fK A key = none ∧ aN A < 20 := by
  unfold cantA at h
  split at h
  · exact absurd h (by decide)
  next h1 =>
    split at h
    · exact absurd h (by decide)
    next h2 =>
      split at h
      next h3 =>
        refine ⟨in_99 h1, ?_, h3⟩
        rcases hf : fK A key with _ | i
        · rfl
        · rw [hf] at h2; exact absurd rfl h2
      · exact absurd h (by decide)
def CarPo (p : Nat) (ev : Int32) (img : Nat → Int32) (X : XS) (I : MI) (R : MR) : Po := fun v g' I' R' => v = none ∧ g0 = g' ∧ R = R' ∧ EM I' p ((carA ev img (xA X), X.2) : XS) ∧ Kp p I I' ∧ I' 322 = I 322
theorem Kp.fw {p : Nat} {I I' : MI} (h : Kp p I I') (b : Nat) (g : Nat → Int32) (n : Nat) (hb : p ≤ b) (hn : b + n ≤ p + 413) : Kp p I (fw I' 318 b g n) := h.tr ⟨fun a _ h2 _ => fw_o h2, fun _ _ => congrFun (fw_o (by decide)) _, fun i hi => fw_out (by omega)⟩
theorem EM.rows {I I' : MI} {p : Nat} {X : XS} {K : Nat → Nat → Int32} {n : Nat} (h : EM I p X) (hR : RowQ (I' 318) p K n) (ok : okK K n) (h1 : I' 317 = I 317) (h2 : ∀ i, p + 81 ≤ i → i < p + 413 → I' 318 i = I 318 i) : EM I' p ((setK (xA X) K n, X.2) : XS) := by
  obtain ⟨⟨a1, a2, a3, a4⟩, b, c⟩ := h
  exact ⟨⟨hR, a2.of (fun i q1 q2 => h2 i (by omega) (by omega)), a3.of (fun i q1 q2 => h2 i (by omega) (by omega)), a4.of (fun i q1 q2 => h2 i (by omega) (by omega))⟩, ⟨ok, b.2.1, b.2.2⟩, by rw [h1]; exact c⟩
set_option maxRecDepth 100000 in
set_option maxHeartbeats 800000 in
theorem M_carriesOut (p d : Nat) (hp : p ≤ 413) (hd : d < 9) (ev : Int32) (img : Nat → Int32) (X : XS) (I : MI) (R : MR) (hFR : FR R) (hX : EM I p X) (hcan : CanC (xA X) ev img) (hev : I 322 (8 * d + 0) = ev) (hi : ∀ t, t < 4 → I 322 (8 * d + 1 + t) = img t) : Sp 1 0 0 mX11_carriesOut [.ref 317, .int (nI p), .int (nI d)] g0 I R (CarPo p ev img X I R) := by
  have hm0 := hFR.2.2.2.2.2.1
  have hm1 := hFR.2.2.2.2.2.2.1
  have hm3 := hFR.2.2.2.2.2.2.2.1
  have hm5 := hFR.2.2.2.2.2.2.2.2.1
  have hm7 := hFR.2.2.2.2.2.2.2.2.2
  obtain ⟨⟨hR, hU, hS, hL⟩, hok, hc⟩ := id hX
  have hok1 := hok.1
  obtain ⟨key, hkey⟩ : ∃ key, img 0 = key := ⟨_, rfl⟩
  have hk : I 322 (8 * d + 1) = key := by rw [← hkey]; exact hi 0 (by decide)
  obtain ⟨n, en⟩ : ∃ n, n = aN (xA X) := ⟨_, rfl⟩
  rw [← en] at hR hok1
  have hn := hR.2.1
  refine Sp.on (by decide +kernel) rfl rfl (fun J hM => ?_)
  have hJ := hM.ok
  rcases hcan with ⟨rfl, hcan⟩ | ⟨rfl | rfl, i, hf⟩
  · obtain ⟨hq, hfn, hn20⟩ := cant_1 hcan
    have hfn : fndF (fun j => aK (xA X) j 0 = img 0) 0 n = none := by rw [en]; exact hfn
    rw [← en] at hn20
    have loop : ∀ (k t : Nat), k + t = 4 → J 0 0 161 [some (.ref 317), some (.int (nI p)), some (.int (nI d)), some (.int 0), some (.int (nI (p + 1 + 4 * n))), some (.int (nI t)), none] [] g0 (fw (up2 I 318 (p + 0) (nI (n + 1))) 318 (p + 1 + 4 * n) img t) R := by
      intro k
      induction k with
      | zero =>
        intro t hm2
        refine q_iload hJ dX11_carriesOut_161 (q := 163) rfl rfl ?_
        refine q_iconst hJ (v := 4) dX11_carriesOut_163 (q := 164) rfl (by decide) ?_
        refine q_icmp_ge hJ (tgt := 197) dX11_carriesOut_164 (q := 167) rfl (by decide) (fun _ => ?_) (fun c3 => absurd ((nI_leI (a := 4) (b := t) (by omega) (by omega)).mpr (by omega)) c3)
        refine q_vret hM dX11_carriesOut_197 rfl ?_
        have et : t = 4 := by omega
        subst et
        refine ⟨rfl, rfl, rfl, ?_, ((Kp.rf p I).u318 (by omega) _).fw _ _ _ (by omega) (by omega), by rw [fw_o (by decide), up2_other _ _ _ _ (by decide)]⟩
        rw [show carA 0 img (xA X) = setK (xA X) (insK (aK (xA X)) n img) (n + 1) by unfold carA; rw [if_pos rfl, ← en, if_pos hn20]]
        refine hX.rows ?_ ?_ (by rw [fw_o (by decide), up2_other _ _ _ _ (by decide)]) (fun x q1 q2 => by rw [fw_out (by omega), up2_i (by omega)])
        · refine hR.ins hn20 hfn ?_ (fun f hf => ?_) (fun s hs f hf => ?_)
          · rw [fw_out (by omega), up2_self]
          · rw [fw_in hf]
          · rw [fw_out (by omega), up2_i (by omega)]
        · exact hok1.ins hq hfn
      | succ k ih =>
        intro t hm2
        refine q_iload hJ dX11_carriesOut_161 (q := 163) rfl rfl ?_
        refine q_iconst hJ (v := 4) dX11_carriesOut_163 (q := 164) rfl (by decide) ?_
        refine q_icmp_ge hJ (tgt := 197) dX11_carriesOut_164 (q := 167) rfl (by decide) (fun c3 => absurd ((nI_leI (a := 4) (b := t) (by omega) (by omega)).mp c3) (by omega)) (fun _ => ?_)
        refine q_aload_n hJ dX11_carriesOut_167 (q := 168) rfl rfl (by first | rfl | exact isR_rr _) ?_
        refine q_getR hJ dX11_carriesOut_168 (q := 171) rfl fl_X11_7 rfl (by first | exact ka317 | exact ka318 | exact ka319 | exact ka320 | exact ka321 | exact ka322) (by assumption) rfl ?_
        refine q_iload hJ dX11_carriesOut_171 (q := 173) rfl rfl ?_
        refine q_iload hJ dX11_carriesOut_173 (q := 175) rfl rfl ?_
        refine q_iadd hJ dX11_carriesOut_175 (q := 176) rfl ?_
        refine q_aload_n hJ dX11_carriesOut_176 (q := 177) rfl rfl (by first | rfl | exact isR_rr _) ?_
        refine q_getR hJ dX11_carriesOut_177 (q := 180) rfl fl_X11_22 rfl (by first | exact ka317 | exact ka318 | exact ka319 | exact ka320 | exact ka321 | exact ka322) (by assumption) rfl ?_
        refine q_bipush hJ (v := 8) dX11_carriesOut_180 (q := 182) rfl (by decide) ?_
        refine q_iload_n hJ dX11_carriesOut_182 (q := 183) rfl rfl ?_
        refine q_imul hJ dX11_carriesOut_183 (q := 184) rfl ?_
        refine q_iconst hJ (v := 1) dX11_carriesOut_184 (q := 185) rfl (by decide) ?_
        refine q_iadd hJ dX11_carriesOut_185 (q := 186) rfl ?_
        refine q_iload hJ dX11_carriesOut_186 (q := 188) rfl rfl ?_
        refine q_iadd hJ dX11_carriesOut_188 (q := 189) rfl ?_
        refine q_iald hJ dX11_carriesOut_189 (q := 190) rfl (by first | exact ka317 | exact ka318 | exact ka319 | exact ka320 | exact ka321 | exact ka322) (ixE (j := 8 * d + 1 + t) (by ((try simp only [nIl_add, nI_mul, nIl_0, nIl_1, nIl_2, nIl_3, nIl_4, nIl_5, nIl_6, nIl_7, nIl_8, nIl_9, nIl_10, nIl_11, nIl_12, nIl_20, nIl_60, nIl_72, nIl_80, nIl_81, nIl_82, nIl_99, nIl_100, nIl_226, nIl_227, nIl_228, nIl_229, nIl_230, nIl_231, nIl_232, nIl_233, nIl_413, nIl_1239, nIl_10000]) <;> first | done | rfl | exact congrArg nI (by omega))) (by omega) (by decide)) (show _ = img t by rw [fw_o (by decide), up2_i (by omega)]; exact hi t (by omega)) ?_
        refine q_iast hJ dX11_carriesOut_190 (q := 191) rfl (by first | exact ka317 | exact ka318 | exact ka319 | exact ka320 | exact ka321 | exact ka322) (ixE (j := p + 1 + 4 * n + t) (by ((try simp only [nIl_add, nI_mul, nIl_0, nIl_1, nIl_2, nIl_3, nIl_4, nIl_5, nIl_6, nIl_7, nIl_8, nIl_9, nIl_10, nIl_11, nIl_12, nIl_20, nIl_60, nIl_72, nIl_80, nIl_81, nIl_82, nIl_99, nIl_100, nIl_226, nIl_227, nIl_228, nIl_229, nIl_230, nIl_231, nIl_232, nIl_233, nIl_413, nIl_1239, nIl_10000]) <;> first | done | rfl | exact congrArg nI (by omega))) (by omega) (by decide)) ?_
        refine q_iinc hJ dX11_carriesOut_191 (q := 194) rfl (by decide) rfl (nI_1 t) ?_
        refine q_goto hJ (tgt := 161) dX11_carriesOut_194 (by decide) ?_
        rw [fw_step (g := img)]
        exact ih (t + 1) (by omega)
    refine q_aload_n hJ dX11_carriesOut_0 (q := 1) rfl rfl (by first | rfl | exact isR_rr _) ?_
    refine q_getR hJ dX11_carriesOut_1 (q := 4) rfl fl_X11_22 rfl (by first | exact ka317 | exact ka318 | exact ka319 | exact ka320 | exact ka321 | exact ka322) (by assumption) rfl ?_
    refine q_bipush hJ (v := 8) dX11_carriesOut_4 (q := 6) rfl (by decide) ?_
    refine q_iload_n hJ dX11_carriesOut_6 (q := 7) rfl rfl ?_
    refine q_imul hJ dX11_carriesOut_7 (q := 8) rfl ?_
    refine q_iconst hJ (v := 0) dX11_carriesOut_8 (q := 9) rfl (by decide) ?_
    refine q_iadd hJ dX11_carriesOut_9 (q := 10) rfl ?_
    refine q_iald hJ dX11_carriesOut_10 (q := 11) rfl (by first | exact ka317 | exact ka318 | exact ka319 | exact ka320 | exact ka321 | exact ka322) (ixE (j := 8 * d + 0) (by ((try simp only [nIl_add, nI_mul, nIl_0, nIl_1, nIl_2, nIl_3, nIl_4, nIl_5, nIl_6, nIl_7, nIl_8, nIl_9, nIl_10, nIl_11, nIl_12, nIl_20, nIl_60, nIl_72, nIl_80, nIl_81, nIl_82, nIl_99, nIl_100, nIl_226, nIl_227, nIl_228, nIl_229, nIl_230, nIl_231, nIl_232, nIl_233, nIl_413, nIl_1239, nIl_10000]) <;> first | done | rfl | exact congrArg nI (by omega))) (by omega) (by decide)) hev ?_
    refine q_istore_n hJ dX11_carriesOut_11 (q := 12) rfl (by decide) ?_
    refine q_iload_n hJ dX11_carriesOut_12 (q := 13) rfl rfl ?_
    refine q_iconst hJ (v := 2) dX11_carriesOut_13 (q := 14) rfl (by decide) ?_
    refine q_icmp_ne hJ (tgt := 99) dX11_carriesOut_14 (q := 17) rfl (by decide) (fun _ => ?_) (fun c1 => absurd c1 (by decide))
    refine q_iload_n hJ dX11_carriesOut_99 (q := 100) rfl rfl ?_
    refine q_if_ne hJ (tgt := 120) dX11_carriesOut_100 (q := 103) rfl (by decide) (fun c2 => absurd rfl c2) (fun _ => ?_)
    refine q_iload_n hJ dX11_carriesOut_103 (q := 104) rfl rfl ?_
    refine q_iconst hJ (v := 1) dX11_carriesOut_104 (q := 105) rfl (by decide) ?_
    refine q_iadd hJ dX11_carriesOut_105 (q := 106) rfl ?_
    refine q_iconst hJ (v := 4) dX11_carriesOut_106 (q := 107) rfl (by decide) ?_
    refine q_aload_n hJ dX11_carriesOut_107 (q := 108) rfl rfl (by first | rfl | exact isR_rr _) ?_
    refine q_getR hJ dX11_carriesOut_108 (q := 111) rfl fl_X11_7 rfl (by first | exact ka317 | exact ka318 | exact ka319 | exact ka320 | exact ka321 | exact ka322) (by assumption) rfl ?_
    refine q_iload_n hJ dX11_carriesOut_111 (q := 112) rfl rfl ?_
    refine q_iconst hJ (v := 0) dX11_carriesOut_112 (q := 113) rfl (by decide) ?_
    refine q_iadd hJ dX11_carriesOut_113 (q := 114) rfl ?_
    refine q_iald hJ dX11_carriesOut_114 (q := 115) rfl (by first | exact ka317 | exact ka318 | exact ka319 | exact ka320 | exact ka321 | exact ka322) (ixE (j := p + 0) (by ((try simp only [nIl_add, nI_mul, nIl_0, nIl_1, nIl_2, nIl_3, nIl_4, nIl_5, nIl_6, nIl_7, nIl_8, nIl_9, nIl_10, nIl_11, nIl_12, nIl_20, nIl_60, nIl_72, nIl_80, nIl_81, nIl_82, nIl_99, nIl_100, nIl_226, nIl_227, nIl_228, nIl_229, nIl_230, nIl_231, nIl_232, nIl_233, nIl_413, nIl_1239, nIl_10000]) <;> first | done | rfl | exact congrArg nI (by omega))) (by omega) (by decide)) hR.1 ?_
    refine q_imul hJ dX11_carriesOut_115 (q := 116) rfl ?_
    refine q_iadd hJ dX11_carriesOut_116 (q := 117) rfl ?_
    refine q_goto hJ (tgt := 136) dX11_carriesOut_117 (by decide) ?_
    rw [show nI p + 1 + 4 * nI n = nI (p + 1 + 4 * n) from by ((try simp only [nIl_add, nI_mul, nIl_0, nIl_1, nIl_2, nIl_3, nIl_4, nIl_5, nIl_6, nIl_7, nIl_8, nIl_9, nIl_10, nIl_11, nIl_12, nIl_20, nIl_60, nIl_72, nIl_80, nIl_81, nIl_82, nIl_99, nIl_100, nIl_226, nIl_227, nIl_228, nIl_229, nIl_230, nIl_231, nIl_232, nIl_233, nIl_413, nIl_1239, nIl_10000]) <;> first | done | rfl | exact congrArg nI (by omega))]
    refine q_istore hJ dX11_carriesOut_136 (q := 138) rfl (by decide) ?_
    refine q_aload_n hJ dX11_carriesOut_138 (q := 139) rfl rfl (by first | rfl | exact isR_rr _) ?_
    refine q_getR hJ dX11_carriesOut_139 (q := 142) rfl fl_X11_7 rfl (by first | exact ka317 | exact ka318 | exact ka319 | exact ka320 | exact ka321 | exact ka322) (by assumption) rfl ?_
    refine q_iload_n hJ dX11_carriesOut_142 (q := 143) rfl rfl ?_
    refine q_iconst hJ (v := 0) dX11_carriesOut_143 (q := 144) rfl (by decide) ?_
    refine q_iadd hJ dX11_carriesOut_144 (q := 145) rfl ?_
    refine q_dup2 hJ dX11_carriesOut_145 (q := 146) rfl rfl rfl ?_
    refine q_iald hJ dX11_carriesOut_146 (q := 147) rfl (by first | exact ka317 | exact ka318 | exact ka319 | exact ka320 | exact ka321 | exact ka322) (ixE (j := p + 0) (by ((try simp only [nIl_add, nI_mul, nIl_0, nIl_1, nIl_2, nIl_3, nIl_4, nIl_5, nIl_6, nIl_7, nIl_8, nIl_9, nIl_10, nIl_11, nIl_12, nIl_20, nIl_60, nIl_72, nIl_80, nIl_81, nIl_82, nIl_99, nIl_100, nIl_226, nIl_227, nIl_228, nIl_229, nIl_230, nIl_231, nIl_232, nIl_233, nIl_413, nIl_1239, nIl_10000]) <;> first | done | rfl | exact congrArg nI (by omega))) (by omega) (by decide)) hR.1 ?_
    refine q_iload_n hJ dX11_carriesOut_147 (q := 148) rfl rfl ?_
    refine q_if_ne hJ (tgt := 155) dX11_carriesOut_148 (q := 151) rfl (by decide) (fun c4 => absurd rfl c4) (fun _ => ?_)
    refine q_iconst hJ (v := 1) dX11_carriesOut_151 (q := 152) rfl (by decide) ?_
    refine q_goto hJ (tgt := 156) dX11_carriesOut_152 (by decide) ?_
    refine q_iadd hJ dX11_carriesOut_156 (q := 157) rfl ?_
    rw [show nI n + 1 = nI (n + 1) from nI_1 n]
    refine q_iast hJ dX11_carriesOut_157 (q := 158) rfl (by first | exact ka317 | exact ka318 | exact ka319 | exact ka320 | exact ka321 | exact ka322) (ixE (j := p + 0) (by ((try simp only [nIl_add, nI_mul, nIl_0, nIl_1, nIl_2, nIl_3, nIl_4, nIl_5, nIl_6, nIl_7, nIl_8, nIl_9, nIl_10, nIl_11, nIl_12, nIl_20, nIl_60, nIl_72, nIl_80, nIl_81, nIl_82, nIl_99, nIl_100, nIl_226, nIl_227, nIl_228, nIl_229, nIl_230, nIl_231, nIl_232, nIl_233, nIl_413, nIl_1239, nIl_10000]) <;> first | done | rfl | exact congrArg nI (by omega))) (by omega) (by decide)) ?_
    refine q_iconst hJ (v := 0) dX11_carriesOut_158 (q := 159) rfl (by decide) ?_
    refine q_istore hJ dX11_carriesOut_159 (q := 161) rfl (by decide) ?_
    have h0 := loop 4 0 rfl
    rw [fw_0] at h0
    exact h0
  · rw [hkey] at hf
    obtain ⟨j, hj, hm, he⟩ := hR.some hok1 (show fndF (fun i => aK (xA X) i 0 = key) 0 n = some i by rw [en]; exact hf)
    have hin : i < n := by have := (fndF_some hf).2.1; omega
    have hki : img 0 = aK (xA X) i 0 := by rw [hkey]; exact (fndF_some hf).2.2.1.symm
    have loop : ∀ (k t : Nat), k + t = 4 → J 0 0 161 [some (.ref 317), some (.int (nI p)), some (.int (nI d)), some (.int 1), some (.int (nI (p + 1 + 4 * j))), some (.int (nI t)), none] [] g0 (fw (up2 I 318 (p + 0) (nI (n))) 318 (p + 1 + 4 * j) img t) R := by
      intro k
      induction k with
      | zero =>
        intro t hm2
        refine q_iload hJ dX11_carriesOut_161 (q := 163) rfl rfl ?_
        refine q_iconst hJ (v := 4) dX11_carriesOut_163 (q := 164) rfl (by decide) ?_
        refine q_icmp_ge hJ (tgt := 197) dX11_carriesOut_164 (q := 167) rfl (by decide) (fun _ => ?_) (fun c3 => absurd ((nI_leI (a := 4) (b := t) (by omega) (by omega)).mpr (by omega)) c3)
        refine q_vret hM dX11_carriesOut_197 rfl ?_
        have et : t = 4 := by omega
        subst et
        refine ⟨rfl, rfl, rfl, ?_, ((Kp.rf p I).u318 (by omega) _).fw _ _ _ (by omega) (by omega), by rw [fw_o (by decide), up2_other _ _ _ _ (by decide)]⟩
        rw [show carA 1 img (xA X) = setK (xA X) (putK (aK (xA X)) i img) n by unfold carA; rw [if_neg (by decide), if_pos rfl, hkey, hf, en]]
        refine hX.rows ?_ ?_ (by rw [fw_o (by decide), up2_other _ _ _ _ (by decide)]) (fun x q1 q2 => by rw [fw_out (by omega), up2_i (by omega)])
        · refine hR.put hok1 hin hj he hki ?_ (fun f hf => ?_) (fun s hs hsj f hf => ?_)
          · rw [fw_out (by omega), up2_self]
          · rw [fw_in hf]
          · rw [fw_out (by omega), up2_i (by omega)]
        · exact hok1.put hki
      | succ k ih =>
        intro t hm2
        refine q_iload hJ dX11_carriesOut_161 (q := 163) rfl rfl ?_
        refine q_iconst hJ (v := 4) dX11_carriesOut_163 (q := 164) rfl (by decide) ?_
        refine q_icmp_ge hJ (tgt := 197) dX11_carriesOut_164 (q := 167) rfl (by decide) (fun c3 => absurd ((nI_leI (a := 4) (b := t) (by omega) (by omega)).mp c3) (by omega)) (fun _ => ?_)
        refine q_aload_n hJ dX11_carriesOut_167 (q := 168) rfl rfl (by first | rfl | exact isR_rr _) ?_
        refine q_getR hJ dX11_carriesOut_168 (q := 171) rfl fl_X11_7 rfl (by first | exact ka317 | exact ka318 | exact ka319 | exact ka320 | exact ka321 | exact ka322) (by assumption) rfl ?_
        refine q_iload hJ dX11_carriesOut_171 (q := 173) rfl rfl ?_
        refine q_iload hJ dX11_carriesOut_173 (q := 175) rfl rfl ?_
        refine q_iadd hJ dX11_carriesOut_175 (q := 176) rfl ?_
        refine q_aload_n hJ dX11_carriesOut_176 (q := 177) rfl rfl (by first | rfl | exact isR_rr _) ?_
        refine q_getR hJ dX11_carriesOut_177 (q := 180) rfl fl_X11_22 rfl (by first | exact ka317 | exact ka318 | exact ka319 | exact ka320 | exact ka321 | exact ka322) (by assumption) rfl ?_
        refine q_bipush hJ (v := 8) dX11_carriesOut_180 (q := 182) rfl (by decide) ?_
        refine q_iload_n hJ dX11_carriesOut_182 (q := 183) rfl rfl ?_
        refine q_imul hJ dX11_carriesOut_183 (q := 184) rfl ?_
        refine q_iconst hJ (v := 1) dX11_carriesOut_184 (q := 185) rfl (by decide) ?_
        refine q_iadd hJ dX11_carriesOut_185 (q := 186) rfl ?_
        refine q_iload hJ dX11_carriesOut_186 (q := 188) rfl rfl ?_
        refine q_iadd hJ dX11_carriesOut_188 (q := 189) rfl ?_
        refine q_iald hJ dX11_carriesOut_189 (q := 190) rfl (by first | exact ka317 | exact ka318 | exact ka319 | exact ka320 | exact ka321 | exact ka322) (ixE (j := 8 * d + 1 + t) (by ((try simp only [nIl_add, nI_mul, nIl_0, nIl_1, nIl_2, nIl_3, nIl_4, nIl_5, nIl_6, nIl_7, nIl_8, nIl_9, nIl_10, nIl_11, nIl_12, nIl_20, nIl_60, nIl_72, nIl_80, nIl_81, nIl_82, nIl_99, nIl_100, nIl_226, nIl_227, nIl_228, nIl_229, nIl_230, nIl_231, nIl_232, nIl_233, nIl_413, nIl_1239, nIl_10000]) <;> first | done | rfl | exact congrArg nI (by omega))) (by omega) (by decide)) (show _ = img t by rw [fw_o (by decide), up2_i (by omega)]; exact hi t (by omega)) ?_
        refine q_iast hJ dX11_carriesOut_190 (q := 191) rfl (by first | exact ka317 | exact ka318 | exact ka319 | exact ka320 | exact ka321 | exact ka322) (ixE (j := p + 1 + 4 * j + t) (by ((try simp only [nIl_add, nI_mul, nIl_0, nIl_1, nIl_2, nIl_3, nIl_4, nIl_5, nIl_6, nIl_7, nIl_8, nIl_9, nIl_10, nIl_11, nIl_12, nIl_20, nIl_60, nIl_72, nIl_80, nIl_81, nIl_82, nIl_99, nIl_100, nIl_226, nIl_227, nIl_228, nIl_229, nIl_230, nIl_231, nIl_232, nIl_233, nIl_413, nIl_1239, nIl_10000]) <;> first | done | rfl | exact congrArg nI (by omega))) (by omega) (by decide)) ?_
        refine q_iinc hJ dX11_carriesOut_191 (q := 194) rfl (by decide) rfl (nI_1 t) ?_
        refine q_goto hJ (tgt := 161) dX11_carriesOut_194 (by decide) ?_
        rw [fw_step (g := img)]
        exact ih (t + 1) (by omega)
    refine q_aload_n hJ dX11_carriesOut_0 (q := 1) rfl rfl (by first | rfl | exact isR_rr _) ?_
    refine q_getR hJ dX11_carriesOut_1 (q := 4) rfl fl_X11_22 rfl (by first | exact ka317 | exact ka318 | exact ka319 | exact ka320 | exact ka321 | exact ka322) (by assumption) rfl ?_
    refine q_bipush hJ (v := 8) dX11_carriesOut_4 (q := 6) rfl (by decide) ?_
    refine q_iload_n hJ dX11_carriesOut_6 (q := 7) rfl rfl ?_
    refine q_imul hJ dX11_carriesOut_7 (q := 8) rfl ?_
    refine q_iconst hJ (v := 0) dX11_carriesOut_8 (q := 9) rfl (by decide) ?_
    refine q_iadd hJ dX11_carriesOut_9 (q := 10) rfl ?_
    refine q_iald hJ dX11_carriesOut_10 (q := 11) rfl (by first | exact ka317 | exact ka318 | exact ka319 | exact ka320 | exact ka321 | exact ka322) (ixE (j := 8 * d + 0) (by ((try simp only [nIl_add, nI_mul, nIl_0, nIl_1, nIl_2, nIl_3, nIl_4, nIl_5, nIl_6, nIl_7, nIl_8, nIl_9, nIl_10, nIl_11, nIl_12, nIl_20, nIl_60, nIl_72, nIl_80, nIl_81, nIl_82, nIl_99, nIl_100, nIl_226, nIl_227, nIl_228, nIl_229, nIl_230, nIl_231, nIl_232, nIl_233, nIl_413, nIl_1239, nIl_10000]) <;> first | done | rfl | exact congrArg nI (by omega))) (by omega) (by decide)) hev ?_
    refine q_istore_n hJ dX11_carriesOut_11 (q := 12) rfl (by decide) ?_
    refine q_iload_n hJ dX11_carriesOut_12 (q := 13) rfl rfl ?_
    refine q_iconst hJ (v := 2) dX11_carriesOut_13 (q := 14) rfl (by decide) ?_
    refine q_icmp_ne hJ (tgt := 99) dX11_carriesOut_14 (q := 17) rfl (by decide) (fun _ => ?_) (fun c1 => absurd c1 (by decide))
    refine q_iload_n hJ dX11_carriesOut_99 (q := 100) rfl rfl ?_
    refine q_if_ne hJ (tgt := 120) dX11_carriesOut_100 (q := 103) rfl (by decide) (fun _ => ?_) (fun c2 => absurd c2 (by decide))
    refine q_aload_n hJ dX11_carriesOut_120 (q := 121) rfl rfl (by first | rfl | exact isR_rr _) ?_
    refine q_iload_n hJ dX11_carriesOut_121 (q := 122) rfl rfl ?_
    refine q_aload_n hJ dX11_carriesOut_122 (q := 123) rfl rfl (by first | rfl | exact isR_rr _) ?_
    refine q_getR hJ dX11_carriesOut_123 (q := 126) rfl fl_X11_22 rfl (by first | exact ka317 | exact ka318 | exact ka319 | exact ka320 | exact ka321 | exact ka322) (by assumption) rfl ?_
    refine q_bipush hJ (v := 8) dX11_carriesOut_126 (q := 128) rfl (by decide) ?_
    refine q_iload_n hJ dX11_carriesOut_128 (q := 129) rfl rfl ?_
    refine q_imul hJ dX11_carriesOut_129 (q := 130) rfl ?_
    refine q_iconst hJ (v := 1) dX11_carriesOut_130 (q := 131) rfl (by decide) ?_
    refine q_iadd hJ dX11_carriesOut_131 (q := 132) rfl ?_
    refine q_iald hJ dX11_carriesOut_132 (q := 133) rfl (by first | exact ka317 | exact ka318 | exact ka319 | exact ka320 | exact ka321 | exact ka322) (ixE (j := 8 * d + 1) (by ((try simp only [nIl_add, nI_mul, nIl_0, nIl_1, nIl_2, nIl_3, nIl_4, nIl_5, nIl_6, nIl_7, nIl_8, nIl_9, nIl_10, nIl_11, nIl_12, nIl_20, nIl_60, nIl_72, nIl_80, nIl_81, nIl_82, nIl_99, nIl_100, nIl_226, nIl_227, nIl_228, nIl_229, nIl_230, nIl_231, nIl_232, nIl_233, nIl_413, nIl_1239, nIl_10000]) <;> first | done | rfl | exact congrArg nI (by omega))) (by omega) (by decide)) hk ?_
    refine q_callV hJ dX11_carriesOut_133 (q := 136) rfl (M_rowOf I R p n key hp hR.1 hR.2.1 hFR) imX11_rowOf ln_X11_54 (by first | exact ka317 | exact ka318 | exact ka319 | exact ka320 | exact ka321 | exact ka322) (by decide) rfl rfl rfl rfl (Nat.le_of_ble_eq_true rfl) (by decide) (by decide) rfl rfl (fun rv gv Iv Rv hv => ?_)
    obtain ⟨rfl, rfl, rfl, rfl⟩ := hv
    rw [hm, show rwI p (some j) = nI (p + 1 + 4 * j) from rfl]
    refine q_istore hJ dX11_carriesOut_136 (q := 138) rfl (by decide) ?_
    refine q_aload_n hJ dX11_carriesOut_138 (q := 139) rfl rfl (by first | rfl | exact isR_rr _) ?_
    refine q_getR hJ dX11_carriesOut_139 (q := 142) rfl fl_X11_7 rfl (by first | exact ka317 | exact ka318 | exact ka319 | exact ka320 | exact ka321 | exact ka322) (by assumption) rfl ?_
    refine q_iload_n hJ dX11_carriesOut_142 (q := 143) rfl rfl ?_
    refine q_iconst hJ (v := 0) dX11_carriesOut_143 (q := 144) rfl (by decide) ?_
    refine q_iadd hJ dX11_carriesOut_144 (q := 145) rfl ?_
    refine q_dup2 hJ dX11_carriesOut_145 (q := 146) rfl rfl rfl ?_
    refine q_iald hJ dX11_carriesOut_146 (q := 147) rfl (by first | exact ka317 | exact ka318 | exact ka319 | exact ka320 | exact ka321 | exact ka322) (ixE (j := p + 0) (by ((try simp only [nIl_add, nI_mul, nIl_0, nIl_1, nIl_2, nIl_3, nIl_4, nIl_5, nIl_6, nIl_7, nIl_8, nIl_9, nIl_10, nIl_11, nIl_12, nIl_20, nIl_60, nIl_72, nIl_80, nIl_81, nIl_82, nIl_99, nIl_100, nIl_226, nIl_227, nIl_228, nIl_229, nIl_230, nIl_231, nIl_232, nIl_233, nIl_413, nIl_1239, nIl_10000]) <;> first | done | rfl | exact congrArg nI (by omega))) (by omega) (by decide)) hR.1 ?_
    refine q_iload_n hJ dX11_carriesOut_147 (q := 148) rfl rfl ?_
    refine q_if_ne hJ (tgt := 155) dX11_carriesOut_148 (q := 151) rfl (by decide) (fun _ => ?_) (fun c4 => absurd c4 (by decide))
    refine q_iconst hJ (v := 0) dX11_carriesOut_155 (q := 156) rfl (by decide) ?_
    refine q_iadd hJ dX11_carriesOut_156 (q := 157) rfl ?_
    rw [show nI n + 0 = nI n from Int32.add_zero _]
    refine q_iast hJ dX11_carriesOut_157 (q := 158) rfl (by first | exact ka317 | exact ka318 | exact ka319 | exact ka320 | exact ka321 | exact ka322) (ixE (j := p + 0) (by ((try simp only [nIl_add, nI_mul, nIl_0, nIl_1, nIl_2, nIl_3, nIl_4, nIl_5, nIl_6, nIl_7, nIl_8, nIl_9, nIl_10, nIl_11, nIl_12, nIl_20, nIl_60, nIl_72, nIl_80, nIl_81, nIl_82, nIl_99, nIl_100, nIl_226, nIl_227, nIl_228, nIl_229, nIl_230, nIl_231, nIl_232, nIl_233, nIl_413, nIl_1239, nIl_10000]) <;> first | done | rfl | exact congrArg nI (by omega))) (by omega) (by decide)) ?_
    refine q_iconst hJ (v := 0) dX11_carriesOut_158 (q := 159) rfl (by decide) ?_
    refine q_istore hJ dX11_carriesOut_159 (q := 161) rfl (by decide) ?_
    have h0 := loop 4 0 rfl
    rw [fw_0] at h0
    exact h0
  · rw [hkey] at hf
    obtain ⟨j, hj, hm, he⟩ := hR.some hok1 (show fndF (fun i => aK (xA X) i 0 = key) 0 n = some i by rw [en]; exact hf)
    have hin : i < n := by have := (fndF_some hf).2.1; omega
    skip
    have loop : ∀ (k t : Nat), k + t = 4 → J 0 0 66 [some (.ref 317), some (.int (nI p)), some (.int (nI d)), some (.int 2), some (.int (nI (p + 1 + 4 * j))), some (.int (nI (p + 1 + 4 * (n - 1)))), some (.int (nI t))] [] g0 (fw (up2 I 318 (p + 0) (nI (n - 1))) 318 (p + 1 + 4 * j) (fun s => up2 I 318 (p + 0) (nI (n - 1)) 318 (p + 1 + 4 * (n - 1) + s)) t) R := by
      intro k
      induction k with
      | zero =>
        intro t hm2
        refine q_iload hJ dX11_carriesOut_66 (q := 68) rfl rfl ?_
        refine q_iconst hJ (v := 4) dX11_carriesOut_68 (q := 69) rfl (by decide) ?_
        refine q_icmp_ge hJ (tgt := 98) dX11_carriesOut_69 (q := 72) rfl (by decide) (fun _ => ?_) (fun c3 => absurd ((nI_leI (a := 4) (b := t) (by omega) (by omega)).mpr (by omega)) c3)
        refine q_vret hM dX11_carriesOut_98 rfl ?_
        have et : t = 4 := by omega
        subst et
        refine ⟨rfl, rfl, rfl, ?_, ((Kp.rf p I).u318 (by omega) _).fw _ _ _ (by omega) (by omega), by rw [fw_o (by decide), up2_other _ _ _ _ (by decide)]⟩
        rw [show carA 2 img (xA X) = setK (xA X) (delK (aK (xA X)) i) (n - 1) by unfold carA; rw [if_neg (by decide), if_neg (by decide), hkey, hf, en]]
        refine hX.rows ?_ ?_ (by rw [fw_o (by decide), up2_other _ _ _ _ (by decide)]) (fun x q1 q2 => by rw [fw_out (by omega), up2_i (by omega)])
        · refine hR.del hok1 hin hj he ?_ (fun f hf => ?_) (fun s hs hsj f hf => ?_)
          · rw [fw_out (by omega), up2_self]
          · rw [fw_in hf, up2_i (by omega)]
          · rw [fw_out (by omega), up2_i (by omega)]
        · exact hok1.del hin
      | succ k ih =>
        intro t hm2
        refine q_iload hJ dX11_carriesOut_66 (q := 68) rfl rfl ?_
        refine q_iconst hJ (v := 4) dX11_carriesOut_68 (q := 69) rfl (by decide) ?_
        refine q_icmp_ge hJ (tgt := 98) dX11_carriesOut_69 (q := 72) rfl (by decide) (fun c3 => absurd ((nI_leI (a := 4) (b := t) (by omega) (by omega)).mp c3) (by omega)) (fun _ => ?_)
        refine q_aload_n hJ dX11_carriesOut_72 (q := 73) rfl rfl (by first | rfl | exact isR_rr _) ?_
        refine q_getR hJ dX11_carriesOut_73 (q := 76) rfl fl_X11_7 rfl (by first | exact ka317 | exact ka318 | exact ka319 | exact ka320 | exact ka321 | exact ka322) (by assumption) rfl ?_
        refine q_iload hJ dX11_carriesOut_76 (q := 78) rfl rfl ?_
        refine q_iload hJ dX11_carriesOut_78 (q := 80) rfl rfl ?_
        refine q_iadd hJ dX11_carriesOut_80 (q := 81) rfl ?_
        refine q_aload_n hJ dX11_carriesOut_81 (q := 82) rfl rfl (by first | rfl | exact isR_rr _) ?_
        refine q_getR hJ dX11_carriesOut_82 (q := 85) rfl fl_X11_7 rfl (by first | exact ka317 | exact ka318 | exact ka319 | exact ka320 | exact ka321 | exact ka322) (by assumption) rfl ?_
        refine q_iload hJ dX11_carriesOut_85 (q := 87) rfl rfl ?_
        refine q_iload hJ dX11_carriesOut_87 (q := 89) rfl rfl ?_
        refine q_iadd hJ dX11_carriesOut_89 (q := 90) rfl ?_
        refine q_iald hJ dX11_carriesOut_90 (q := 91) rfl (by first | exact ka317 | exact ka318 | exact ka319 | exact ka320 | exact ka321 | exact ka322) (ixE (j := p + 1 + 4 * (n - 1) + t) (by ((try simp only [nIl_add, nI_mul, nIl_0, nIl_1, nIl_2, nIl_3, nIl_4, nIl_5, nIl_6, nIl_7, nIl_8, nIl_9, nIl_10, nIl_11, nIl_12, nIl_20, nIl_60, nIl_72, nIl_80, nIl_81, nIl_82, nIl_99, nIl_100, nIl_226, nIl_227, nIl_228, nIl_229, nIl_230, nIl_231, nIl_232, nIl_233, nIl_413, nIl_1239, nIl_10000]) <;> first | done | rfl | exact congrArg nI (by omega))) (by omega) (by decide)) (show _ = up2 I 318 (p + 0) (nI (n - 1)) 318 (p + 1 + 4 * (n - 1) + t) from fw_out (by omega)) ?_
        refine q_iast hJ dX11_carriesOut_91 (q := 92) rfl (by first | exact ka317 | exact ka318 | exact ka319 | exact ka320 | exact ka321 | exact ka322) (ixE (j := p + 1 + 4 * j + t) (by ((try simp only [nIl_add, nI_mul, nIl_0, nIl_1, nIl_2, nIl_3, nIl_4, nIl_5, nIl_6, nIl_7, nIl_8, nIl_9, nIl_10, nIl_11, nIl_12, nIl_20, nIl_60, nIl_72, nIl_80, nIl_81, nIl_82, nIl_99, nIl_100, nIl_226, nIl_227, nIl_228, nIl_229, nIl_230, nIl_231, nIl_232, nIl_233, nIl_413, nIl_1239, nIl_10000]) <;> first | done | rfl | exact congrArg nI (by omega))) (by omega) (by decide)) ?_
        refine q_iinc hJ dX11_carriesOut_92 (q := 95) rfl (by decide) rfl (nI_1 t) ?_
        refine q_goto hJ (tgt := 66) dX11_carriesOut_95 (by decide) ?_
        rw [fw_step (g := fun s => up2 I 318 (p + 0) (nI (n - 1)) 318 (p + 1 + 4 * (n - 1) + s))]
        exact ih (t + 1) (by omega)
    refine q_aload_n hJ dX11_carriesOut_0 (q := 1) rfl rfl (by first | rfl | exact isR_rr _) ?_
    refine q_getR hJ dX11_carriesOut_1 (q := 4) rfl fl_X11_22 rfl (by first | exact ka317 | exact ka318 | exact ka319 | exact ka320 | exact ka321 | exact ka322) (by assumption) rfl ?_
    refine q_bipush hJ (v := 8) dX11_carriesOut_4 (q := 6) rfl (by decide) ?_
    refine q_iload_n hJ dX11_carriesOut_6 (q := 7) rfl rfl ?_
    refine q_imul hJ dX11_carriesOut_7 (q := 8) rfl ?_
    refine q_iconst hJ (v := 0) dX11_carriesOut_8 (q := 9) rfl (by decide) ?_
    refine q_iadd hJ dX11_carriesOut_9 (q := 10) rfl ?_
    refine q_iald hJ dX11_carriesOut_10 (q := 11) rfl (by first | exact ka317 | exact ka318 | exact ka319 | exact ka320 | exact ka321 | exact ka322) (ixE (j := 8 * d + 0) (by ((try simp only [nIl_add, nI_mul, nIl_0, nIl_1, nIl_2, nIl_3, nIl_4, nIl_5, nIl_6, nIl_7, nIl_8, nIl_9, nIl_10, nIl_11, nIl_12, nIl_20, nIl_60, nIl_72, nIl_80, nIl_81, nIl_82, nIl_99, nIl_100, nIl_226, nIl_227, nIl_228, nIl_229, nIl_230, nIl_231, nIl_232, nIl_233, nIl_413, nIl_1239, nIl_10000]) <;> first | done | rfl | exact congrArg nI (by omega))) (by omega) (by decide)) hev ?_
    refine q_istore_n hJ dX11_carriesOut_11 (q := 12) rfl (by decide) ?_
    refine q_iload_n hJ dX11_carriesOut_12 (q := 13) rfl rfl ?_
    refine q_iconst hJ (v := 2) dX11_carriesOut_13 (q := 14) rfl (by decide) ?_
    refine q_icmp_ne hJ (tgt := 99) dX11_carriesOut_14 (q := 17) rfl (by decide) (fun c1 => absurd c1 (by decide)) (fun _ => ?_)
    refine q_aload_n hJ dX11_carriesOut_17 (q := 18) rfl rfl (by first | rfl | exact isR_rr _) ?_
    refine q_iload_n hJ dX11_carriesOut_18 (q := 19) rfl rfl ?_
    refine q_aload_n hJ dX11_carriesOut_19 (q := 20) rfl rfl (by first | rfl | exact isR_rr _) ?_
    refine q_getR hJ dX11_carriesOut_20 (q := 23) rfl fl_X11_22 rfl (by first | exact ka317 | exact ka318 | exact ka319 | exact ka320 | exact ka321 | exact ka322) (by assumption) rfl ?_
    refine q_bipush hJ (v := 8) dX11_carriesOut_23 (q := 25) rfl (by decide) ?_
    refine q_iload_n hJ dX11_carriesOut_25 (q := 26) rfl rfl ?_
    refine q_imul hJ dX11_carriesOut_26 (q := 27) rfl ?_
    refine q_iconst hJ (v := 1) dX11_carriesOut_27 (q := 28) rfl (by decide) ?_
    refine q_iadd hJ dX11_carriesOut_28 (q := 29) rfl ?_
    refine q_iald hJ dX11_carriesOut_29 (q := 30) rfl (by first | exact ka317 | exact ka318 | exact ka319 | exact ka320 | exact ka321 | exact ka322) (ixE (j := 8 * d + 1) (by ((try simp only [nIl_add, nI_mul, nIl_0, nIl_1, nIl_2, nIl_3, nIl_4, nIl_5, nIl_6, nIl_7, nIl_8, nIl_9, nIl_10, nIl_11, nIl_12, nIl_20, nIl_60, nIl_72, nIl_80, nIl_81, nIl_82, nIl_99, nIl_100, nIl_226, nIl_227, nIl_228, nIl_229, nIl_230, nIl_231, nIl_232, nIl_233, nIl_413, nIl_1239, nIl_10000]) <;> first | done | rfl | exact congrArg nI (by omega))) (by omega) (by decide)) hk ?_
    refine q_callV hJ dX11_carriesOut_30 (q := 33) rfl (M_rowOf I R p n key hp hR.1 hR.2.1 hFR) imX11_rowOf ln_X11_54 (by first | exact ka317 | exact ka318 | exact ka319 | exact ka320 | exact ka321 | exact ka322) (by decide) rfl rfl rfl rfl (Nat.le_of_ble_eq_true rfl) (by decide) (by decide) rfl rfl (fun rv gv Iv Rv hv => ?_)
    obtain ⟨rfl, rfl, rfl, rfl⟩ := hv
    rw [hm, show rwI p (some j) = nI (p + 1 + 4 * j) from rfl]
    refine q_istore hJ dX11_carriesOut_33 (q := 35) rfl (by decide) ?_
    refine q_aload_n hJ dX11_carriesOut_35 (q := 36) rfl rfl (by first | rfl | exact isR_rr _) ?_
    refine q_getR hJ dX11_carriesOut_36 (q := 39) rfl fl_X11_7 rfl (by first | exact ka317 | exact ka318 | exact ka319 | exact ka320 | exact ka321 | exact ka322) (by assumption) rfl ?_
    refine q_iload_n hJ dX11_carriesOut_39 (q := 40) rfl rfl ?_
    refine q_iconst hJ (v := 0) dX11_carriesOut_40 (q := 41) rfl (by decide) ?_
    refine q_iadd hJ dX11_carriesOut_41 (q := 42) rfl ?_
    refine q_dup2 hJ dX11_carriesOut_42 (q := 43) rfl rfl rfl ?_
    refine q_iald hJ dX11_carriesOut_43 (q := 44) rfl (by first | exact ka317 | exact ka318 | exact ka319 | exact ka320 | exact ka321 | exact ka322) (ixE (j := p + 0) (by ((try simp only [nIl_add, nI_mul, nIl_0, nIl_1, nIl_2, nIl_3, nIl_4, nIl_5, nIl_6, nIl_7, nIl_8, nIl_9, nIl_10, nIl_11, nIl_12, nIl_20, nIl_60, nIl_72, nIl_80, nIl_81, nIl_82, nIl_99, nIl_100, nIl_226, nIl_227, nIl_228, nIl_229, nIl_230, nIl_231, nIl_232, nIl_233, nIl_413, nIl_1239, nIl_10000]) <;> first | done | rfl | exact congrArg nI (by omega))) (by omega) (by decide)) hR.1 ?_
    refine q_iconst hJ (v := 1) dX11_carriesOut_44 (q := 45) rfl (by decide) ?_
    refine q_isub hJ dX11_carriesOut_45 (q := 46) rfl ?_
    rw [show nI n - 1 = nI (n - 1) from nI_sub (a := n) (b := 1) (by omega)]
    refine q_iast hJ dX11_carriesOut_46 (q := 47) rfl (by first | exact ka317 | exact ka318 | exact ka319 | exact ka320 | exact ka321 | exact ka322) (ixE (j := p + 0) (by ((try simp only [nIl_add, nI_mul, nIl_0, nIl_1, nIl_2, nIl_3, nIl_4, nIl_5, nIl_6, nIl_7, nIl_8, nIl_9, nIl_10, nIl_11, nIl_12, nIl_20, nIl_60, nIl_72, nIl_80, nIl_81, nIl_82, nIl_99, nIl_100, nIl_226, nIl_227, nIl_228, nIl_229, nIl_230, nIl_231, nIl_232, nIl_233, nIl_413, nIl_1239, nIl_10000]) <;> first | done | rfl | exact congrArg nI (by omega))) (by omega) (by decide)) ?_
    refine q_iload_n hJ dX11_carriesOut_47 (q := 48) rfl rfl ?_
    refine q_iconst hJ (v := 1) dX11_carriesOut_48 (q := 49) rfl (by decide) ?_
    refine q_iadd hJ dX11_carriesOut_49 (q := 50) rfl ?_
    refine q_iconst hJ (v := 4) dX11_carriesOut_50 (q := 51) rfl (by decide) ?_
    refine q_aload_n hJ dX11_carriesOut_51 (q := 52) rfl rfl (by first | rfl | exact isR_rr _) ?_
    refine q_getR hJ dX11_carriesOut_52 (q := 55) rfl fl_X11_7 rfl (by first | exact ka317 | exact ka318 | exact ka319 | exact ka320 | exact ka321 | exact ka322) (by assumption) rfl ?_
    refine q_iload_n hJ dX11_carriesOut_55 (q := 56) rfl rfl ?_
    refine q_iconst hJ (v := 0) dX11_carriesOut_56 (q := 57) rfl (by decide) ?_
    refine q_iadd hJ dX11_carriesOut_57 (q := 58) rfl ?_
    refine q_iald hJ dX11_carriesOut_58 (q := 59) rfl (by first | exact ka317 | exact ka318 | exact ka319 | exact ka320 | exact ka321 | exact ka322) (ixE (j := p + 0) (by ((try simp only [nIl_add, nI_mul, nIl_0, nIl_1, nIl_2, nIl_3, nIl_4, nIl_5, nIl_6, nIl_7, nIl_8, nIl_9, nIl_10, nIl_11, nIl_12, nIl_20, nIl_60, nIl_72, nIl_80, nIl_81, nIl_82, nIl_99, nIl_100, nIl_226, nIl_227, nIl_228, nIl_229, nIl_230, nIl_231, nIl_232, nIl_233, nIl_413, nIl_1239, nIl_10000]) <;> first | done | rfl | exact congrArg nI (by omega))) (by omega) (by decide)) (up2_self _ _ _ _) ?_
    refine q_imul hJ dX11_carriesOut_59 (q := 60) rfl ?_
    refine q_iadd hJ dX11_carriesOut_60 (q := 61) rfl ?_
    rw [show nI p + 1 + 4 * nI (n - 1) = nI (p + 1 + 4 * (n - 1)) from by ((try simp only [nIl_add, nI_mul, nIl_0, nIl_1, nIl_2, nIl_3, nIl_4, nIl_5, nIl_6, nIl_7, nIl_8, nIl_9, nIl_10, nIl_11, nIl_12, nIl_20, nIl_60, nIl_72, nIl_80, nIl_81, nIl_82, nIl_99, nIl_100, nIl_226, nIl_227, nIl_228, nIl_229, nIl_230, nIl_231, nIl_232, nIl_233, nIl_413, nIl_1239, nIl_10000]) <;> first | done | rfl | exact congrArg nI (by omega))]
    refine q_istore hJ dX11_carriesOut_61 (q := 63) rfl (by decide) ?_
    refine q_iconst hJ (v := 0) dX11_carriesOut_63 (q := 64) rfl (by decide) ?_
    refine q_istore hJ dX11_carriesOut_64 (q := 66) rfl (by decide) ?_
    have h0 := loop 4 0 rfl
    rw [fw_0] at h0
    exact h0

