/-! THE MODEL: a statement runs -/
theorem CanC.congr {A A' : AS} {ev : Int32} {img img' : Nat → Int32} (h : CanC A ev img) (h1 : aK A' = aK A) (h2 : aN A' = aN A) (h3 : img' 0 = img 0) : CanC A' ev img' := by
  unfold CanC cantA fK at *
  rw [h1, h2, h3]
  exact h
theorem amF_end (p : Nat → Prop) [DecidablePred p] (od : Nat → Nat) (m : Nat) (hm : m ≤ 12) : amF p od (nI (cnP (fun t => p (od t)) m)) 0 m 0 = none := by
  rw [amF_from p od m m _ (Nat.le_refl m) hm rfl, Nat.sub_self]
  rfl
theorem op_sim {J : JT} (hJ : Ok mX11_runs (rmD 7 0 0) J) {p d : Nat} {y2 y3 : Int32} {R : MR} (hp : p ≤ 413) (hFR : FR R) {sub : SubT} {cs : List Nat} (hsub : SubM J p y2 y3 R d cs sub) (hS : SubS sub) (h1d : 1 ≤ d) (hd : d < 9) : SimH J p y2 y3 R sub d cs := by
  intro ev img ca X I k B hX hR0 hO hfr hq hcan hev hinv hG hb hC
  have hm12 : aM (xA X) ≤ 12 := hX.1.2.1.2.1
  refine fld_sim hJ hp hFR hsub h1d hd ev 0 ca (odA (xA X)) (aM (xA X)) 0 img X I k (14 + B) (Nat.zero_add _) rfl hX hR0 hO hfr hq hinv hG (by omega) ?_
  obtain ⟨F, eF⟩ : ∃ F, F = fldA sub d cs ev 0 (odA (xA X)) 0 (aM (xA X)) img X := ⟨_, rfl⟩
  have st : Stb X F.2.2 := by rw [eF]; exact (fld_stb hS d cs ev 0 (odA (xA X)) 0 (aM (xA X)) img X).1
  have hO1 : xO F.2.2 ≤ 100 := by rw [eF]; exact (fld_stb hS d cs ev 0 (odA (xA X)) 0 (aM (xA X)) img X).2 hO
  have hk1 : F.2.1 0 = img 0 := by rw [eF]; exact fld_key _ _ _ _ _ _ _ _ _ _
  have hrw : aK (xA F.2.2) = aK (xA X) ∧ aN (xA F.2.2) = aN (xA X) := by
    rw [eF]; exact fld_rows sub d cs ev (odA (xA X)) 0 (aM (xA X)) img X hX.2.1.2.1 (fun t _ h => osrt_lt _ _ t (by omega))
  have eC : opC sub d cs ev img X = if F.1 = true then (fldA sub d cs ev 1 (odA (xA X)) 0 (aM (xA X)) F.2.1 ((carA ev F.2.1 (xA F.2.2), F.2.2.2) : XS)).2.2 else F.2.2 := by rw [eF]; rfl
  rw [eC] at hC
  rw [← eF]
  refine ⟨fun hF I' k' a b c e f g => ?_, fun hF I' k' a b c e f => ?_, fun hF I' k' d' a b c e f => ?_⟩
  · rw [if_pos hF] at hC
    have eo : odA (xA F.2.2) = odA (xA X) := odA_stb st
    refine hd_step hJ hFR a f h1d hd (by omega) (by decide) (M_goesN0 p d hp h1d hd ev F.2.1 _ ca F.2.2 I' R hFR a c ?_ (hcan.congr hrw.1 hrw.2 hk1)) (fun v g' I2 R' hv => ?_)
    · rw [eo, ← prd_stb st, st.2.1]
      exact amF_end (fun r => aU (xA F.2.2) r 0 = ev ∧ aU (xA F.2.2) r 1 = 0) (odA (xA X)) (aM (xA X)) hm12
    · obtain ⟨rfl, rfl, rfl, hk2, hX2, hfr2, hl2⟩ := hv
      have cu := car_U ev F.2.1 (xA F.2.2)
      have st2 : Stb X ((carA ev F.2.1 (xA F.2.2), F.2.2.2) : XS) := st.trans ⟨fun r f hf => by show aU (carA ev F.2.1 (xA F.2.2)) r f = _; rw [cu.1], cu.2.1, cu.2.2.1⟩
      have low2 : ∀ i, i < 8 * d → I2 322 i = I 322 i := fun i hi => (hl2 i hi).trans (e i hi)
      refine ⟨d, rfl, rfl, rfl, ?_⟩
      have h2 := fld_sim hJ hp hFR hsub h1d hd ev 1 ca (odA (xA X)) (aM (xA X)) 0 F.2.1 ((carA ev F.2.1 (xA F.2.2), F.2.2.2) : XS) I2 (k' + 1) (1 + B) (by rw [Nat.zero_add]; exact st2.2.1.symm) (odA_stb st2).symm hX2 f hO1 hfr2 (by rw [hk1]; exact hq) (by rw [st2.2.1]; exact hinv.keep low2 (hfr2.2.2.2.2.trans hfr.2.2.2.2.symm)) (by rw [st2.2.2]; exact hG) (by show k' + 1 + aM (xA X) + (1 + B) ≤ 26 * xO F.2.2; omega)
      obtain ⟨F2, eF2⟩ : ∃ F2, F2 = fldA sub d cs ev 1 (odA (xA X)) 0 (aM (xA X)) F.2.1 ((carA ev F.2.1 (xA F.2.2), F.2.2.2) : XS) := ⟨_, rfl⟩
      have st3 : Stb ((carA ev F.2.1 (xA F.2.2), F.2.2.2) : XS) F2.2.2 := by rw [eF2]; exact (fld_stb hS d cs ev 1 _ 0 _ _ _).1
      have hO3 : xO F2.2.2 ≤ 100 := by rw [eF2]; exact (fld_stb hS d cs ev 1 _ 0 _ _ _).2 hO1
      rw [← eF2] at hC h2
      refine h2 ⟨fun hF2 I3 k3 a3 b3 c3 e3 f3 g3 => ?_, fun hF2 I3 k3 a3 b3 c3 e3 f3 => ?_, fun hF2 I3 k3 d3 a3 b3 c3 e3 f3 => ?_⟩
      · have hk10 : k3 < 10000 := by omega
        refine hd_step hJ hFR a3 f3 h1d hd hk10 (by decide) (M_goesN1 p d hp h1d hd ev F2.2.1 _ ca F2.2.2 I3 R hFR a3 c3 ?_) (fun v g' I4 R' hv => ?_)
        · rw [odA_stb (st2.trans st3), ← prd_stb st3, st2.2.1, (st2.trans st3).2.1]
          exact amF_end (fun r => aU (xA F2.2.2) r 0 = ev ∧ aU (xA F2.2.2) r 1 = 1) (odA (xA X)) (aM (xA X)) hm12
        · obtain ⟨rfl, rfl, rfl, rfl⟩ := hv
          exact ⟨d - 1, rfl, rfl, rfl, hC.1 I3 (k3 + 1) a3 ((b.tr hk2).tr b3) (fun i hi => (e3 i hi).trans (low2 i hi)) f3 (by omega)⟩
      · exact hC.1 I3 k3 a3 ((b.tr hk2).tr b3) (fun i hi => (c3 i hi).trans (low2 i hi)) e3 (by omega)
      · exact hC.2 I3 k3 d3 a3 ((b.tr hk2).tr b3) c3 e3 f3
  · rw [if_neg (by rw [hF]; simp)] at hC
    exact hC.1 I' k' a b c e (by omega)
  · rw [if_neg (by rw [hF]; simp)] at hC
    exact hC.2 I' k' d' a b c e f
def subL : Nat → List Nat → SubT
  | 0, _ => none
  | lv + 1, cs => some (fun ev2 r img2 X2 => opA lv (r :: cs) ev2 (nI r) img2 X2)
theorem opA_eq (lv : Nat) (h : lv ≤ 7) (cs : List Nat) (ev cause : Int32) (img : Nat → Int32) (X : XS) : opA lv cs ev cause img X = if 100 ≤ xO X then refA X 3 cause else opC (subL lv cs) (8 - lv) cs ev img (begA (8 - lv) X) := by
  rcases lv with _ | lv
  · rfl
  · rw [show 8 - (lv + 1) = 7 - lv by omega]; rfl
theorem sub_stb (lv : Nat) (cs : List Nat) : SubS (subL lv cs) := by
  rcases lv with _ | lv
  · exact fun f h => by cases h
  · exact fun f h ev r img X => by cases h; exact opA_stb lv _ _ _ _ _
theorem sim_lv {J : JT} (hJ : Ok mX11_runs (rmD 7 0 0) J) {p : Nat} {y2 y3 : Int32} {R : MR} (hp : p ≤ 413) (hFR : FR R) : ∀ lv, lv ≤ 7 → ∀ cs, SimH J p y2 y3 R (subL lv cs) (8 - lv) cs := by
  intro lv
  induction lv with
  | zero => exact fun _ cs => op_sim hJ hp hFR (Or.inl ⟨rfl, rfl⟩) (sub_stb 0 cs) (by decide) (by decide)
  | succ lv ih =>
    intro hlv cs
    refine op_sim hJ hp hFR (Or.inr ⟨_, fun r => subL lv (r :: cs), rfl, by omega, fun ev r img X => ?_, sub_stb (lv + 1) cs, fun r => ?_⟩) (sub_stb (lv + 1) cs) (by omega) (by omega)
    · show opA lv (r :: cs) ev (nI r) img X = _
      rw [opA_eq lv (by omega), show 8 - (lv + 1) + 1 = 8 - lv by omega]
    · rw [show 8 - (lv + 1) + 1 = 8 - lv by omega]
      exact ih (by omega) (r :: cs)
def RnPo (p : Nat) (X : XS) (I : MI) (R : MR) : Po := fun v g' I' R' => v = none ∧ g0 = g' ∧ R = R' ∧ Kp p I I' ∧ MS (I' 318) p (finA X) ∧ okM (finA X) ∧ (I' 317 8 = nI (xO X) ∧ I' 317 9 = xF X ∧ I' 317 10 = xD X ∧ I' 317 11 = xR X ∧ I' 317 12 = xW X)
theorem EM.zero {I : MI} {p : Nat} {A : AS} (h : MS (I 318) p A) (ok : okM A) : EM (up2 (up2 (up2 (up2 (up2 (up2 I 317 8 0) 317 9 0) 317 10 0) 317 11 0) 317 12 (-1006)) 318 (p + 232) 0) p (X0 A) := by
  obtain ⟨h1, h2, h3, h4⟩ := h
  refine ⟨⟨h1.of fun i _ _ => by rw [up2_i (by omega), up2_i (by omega), up2_i (by omega), up2_i (by omega), up2_i (by omega), up2_i (by omega)], h2.of fun i _ _ => by rw [up2_i (by omega), up2_i (by omega), up2_i (by omega), up2_i (by omega), up2_i (by omega), up2_i (by omega)], h3.of fun i _ _ => by rw [up2_i (by omega), up2_i (by omega), up2_i (by omega), up2_i (by omega), up2_i (by omega), up2_i (by omega)], ⟨?_, Nat.zero_le _, fun i hi => absurd hi (Nat.not_lt_zero _)⟩⟩, ok, ?_, ?_, ?_, ?_, ?_⟩
  · rw [up2_self]; rfl
  · rw [up2_i (by omega), up2_i (by omega), up2_i (by omega), up2_i (by omega), up2_i (by omega), up2_self]; rfl
  · rw [up2_i (by omega), up2_i (by omega), up2_i (by omega), up2_i (by omega), up2_self]; rfl
  · rw [up2_i (by omega), up2_i (by omega), up2_i (by omega), up2_self]; rfl
  · rw [up2_i (by omega), up2_i (by omega), up2_self]; rfl
  · rw [up2_i (by omega), up2_self]; rfl
theorem EM.fin {I I' : MI} {p : Nat} {X : XS} (h : EM I p X) (h2 : I' 318 (p + 228) = aS (xA X) 2 + 1) (h3 : I' 318 (p + 229) = aS (xA X) 3 + nI (xO X)) (h4 : I' 318 (p + 230) = aS (xA X) 4 + xF X) (h5 : I' 318 (p + 231) = if aS (xA X) 5 < xD X then xD X else aS (xA X) 5) (ho : ∀ i, i < p + 228 ∨ p + 232 ≤ i → I' 318 i = I 318 i) : MS (I' 318) p (finA X) ∧ okM (finA X) := by
  obtain ⟨⟨a1, a2, a3, a4⟩, b, _⟩ := h
  refine ⟨⟨a1.of fun i _ _ => ho i (by omega), a2.of fun i _ _ => ho i (by omega), fun i hi => ?_, a4.of fun i _ _ => ho i (by omega)⟩, b.1, b.2.1, b.2.2⟩
  show I' 318 (p + 226 + i) = if i = 2 then aS (xA X) 2 + 1 else if i = 3 then aS (xA X) 3 + nI (xO X) else if i = 4 then aS (xA X) 4 + xF X else if i = 5 then (if aS (xA X) 5 < xD X then xD X else aS (xA X) 5) else aS (xA X) i
  rcases (show i = 0 ∨ i = 1 ∨ i = 2 ∨ i = 3 ∨ i = 4 ∨ i = 5 by omega) with rfl | rfl | rfl | rfl | rfl | rfl
  · rw [ho _ (by omega)]; exact a3 0 (by decide)
  · rw [ho _ (by omega)]; exact a3 1 (by decide)
  · exact h2
  · exact h3
  · exact h4
  · exact h5
theorem bg_can {A : AS} {ev : Int32} {img img2 : Nat → Int32} {a : Nat} {v : Int32} (ok : okM A) (ha : a < 3) (hE : ev = 0 ∨ ev = 1 ∨ ev = 2) (h : bgP A ev img a v = some img2) : CanC A ev img2 ∧ ∃ q, q < 100 ∧ img2 0 = nI q := by
  have fnd : ∀ {key : Int32} {i : Nat}, fK A key = some i → ∃ q, q < 100 ∧ key = nI q := fun {key i} hf => by
    obtain ⟨_, h2, h3, _⟩ := fndF_some hf
    have h3' : aK A i 0 = key := h3
    obtain ⟨q, hq, e⟩ := ok.1.1 i (by omega)
    exact ⟨q, hq, h3'.symm.trans e⟩
  rcases hE with rfl | rfl | rfl
  · unfold bgP at h
    rw [if_pos rfl] at h
    split at h
    · exact absurd h (by simp)
    next hc =>
      have e := Option.some.inj h
      have hc1 : cantA A (img 0) = 1 := by
        unfold cantA at hc ⊢
        repeat' split at hc
        all_goals first | exact absurd rfl hc | skip
        all_goals simp_all
      rw [← e]
      exact ⟨Or.inl ⟨rfl, hc1⟩, (cant_1 hc1).1⟩
  · obtain ⟨i, hf, _, h0⟩ := bg_up ha h
    exact ⟨Or.inr ⟨Or.inl rfl, i, by rw [h0]; exact hf⟩, by rw [h0]; exact fnd hf⟩
  · obtain ⟨i, hf, _, h0⟩ := bg_del h
    exact ⟨Or.inr ⟨Or.inr rfl, i, by rw [h0]; exact hf⟩, by rw [h0]; exact fnd hf⟩
set_option maxRecDepth 100000 in
set_option maxHeartbeats 800000 in
theorem M_runs (p a : Nat) (hp : p ≤ 413) (ha : a < 3) (ev v ca : Int32) (img img2 : Nat → Int32) (A : AS) (I : MI) (R : MR) (hFR : FR R) (hM0 : MS (I 318) p A) (ok : okM A) (hE : ev = 0 ∨ ev = 1 ∨ ev = 2) (hev : I 322 (8 * 1 + 0) = ev) (hi : ∀ t, t < 4 → I 322 (8 * 1 + 1 + t) = img t) (hca : I 322 (8 * 1 + 7) = ca) (hb : bgP A ev img a v = some img2) : Sp 7 0 0 mX11_runs [.ref 317, .int (nI p), .int (nI a), .int v] g0 I R (RnPo p (XR ev img2 A) I R) := by
  have hm0 := hFR.2.2.2.2.2.1
  have hm1 := hFR.2.2.2.2.2.2.1
  have hm3 := hFR.2.2.2.2.2.2.2.1
  have hm5 := hFR.2.2.2.2.2.2.2.2.1
  have hm7 := hFR.2.2.2.2.2.2.2.2.2
  refine Sp.on (by decide +kernel) rfl rfl (fun J hM => ?_)
  have hJ := hM.ok
  have hXR : XR ev img2 A = opA 7 [] ev (-1006) img2 (X0 A) := rfl
  obtain ⟨X, hXe⟩ : ∃ X, X = opA 7 [] ev (-1006) img2 (X0 A) := ⟨_, rfl⟩
  have tail : ∀ (I2 : MI) (d2 k2 : Nat), EM I2 p (opA 7 [] ev (-1006) img2 (X0 A)) → Kp p I I2 → J 0 0 94 [some (.ref 317), some (.int (nI p)), some (.int (nI a)), some (.int v), some (.int (nI d2)), some (.int (nI k2))] [] g0 I2 R := by
    intro I2 d2 k2 he hk
    rw [← hXe] at he
    rw [hXR, ← hXe] at hM
    have hS := he.1.2.2.1
    refine q_aload_n hJ dX11_runs_94 (q := 95) rfl rfl (by first | rfl | exact isR_rr _) ?_
    refine q_getR hJ dX11_runs_95 (q := 98) rfl fl_X11_7 rfl (by first | exact ka317 | exact ka318 | exact ka319 | exact ka320 | exact ka321 | exact ka322) (by assumption) rfl ?_
    refine q_iload_n hJ dX11_runs_98 (q := 99) rfl rfl ?_
    refine q_sipush hJ (v := 228) dX11_runs_99 (q := 102) rfl (by decide) ?_
    refine q_iadd hJ dX11_runs_102 (q := 103) rfl ?_
    refine q_dup2 hJ dX11_runs_103 (q := 104) rfl rfl rfl ?_
    refine q_iald hJ dX11_runs_104 (q := 105) rfl (by first | exact ka317 | exact ka318 | exact ka319 | exact ka320 | exact ka321 | exact ka322) (ixE (j := p + 228) (by ((try simp only [nIl_add, nI_mul, nIl_0, nIl_1, nIl_2, nIl_3, nIl_4, nIl_5, nIl_6, nIl_7, nIl_8, nIl_9, nIl_10, nIl_11, nIl_12, nIl_20, nIl_60, nIl_72, nIl_80, nIl_81, nIl_82, nIl_99, nIl_100, nIl_226, nIl_227, nIl_228, nIl_229, nIl_230, nIl_231, nIl_232, nIl_233, nIl_413, nIl_1239, nIl_10000]) <;> first | done | rfl | exact congrArg nI (by omega))) (by omega) (by decide)) (show _ = aS (xA X) 2 from hS 2 (by decide)) ?_
    refine q_iconst hJ (v := 1) dX11_runs_105 (q := 106) rfl (by decide) ?_
    refine q_iadd hJ dX11_runs_106 (q := 107) rfl ?_
    refine q_iast hJ dX11_runs_107 (q := 108) rfl (by first | exact ka317 | exact ka318 | exact ka319 | exact ka320 | exact ka321 | exact ka322) (ixE (j := p + 228) (by ((try simp only [nIl_add, nI_mul, nIl_0, nIl_1, nIl_2, nIl_3, nIl_4, nIl_5, nIl_6, nIl_7, nIl_8, nIl_9, nIl_10, nIl_11, nIl_12, nIl_20, nIl_60, nIl_72, nIl_80, nIl_81, nIl_82, nIl_99, nIl_100, nIl_226, nIl_227, nIl_228, nIl_229, nIl_230, nIl_231, nIl_232, nIl_233, nIl_413, nIl_1239, nIl_10000]) <;> first | done | rfl | exact congrArg nI (by omega))) (by omega) (by decide)) ?_
    refine q_aload_n hJ dX11_runs_108 (q := 109) rfl rfl (by first | rfl | exact isR_rr _) ?_
    refine q_getR hJ dX11_runs_109 (q := 112) rfl fl_X11_7 rfl (by first | exact ka317 | exact ka318 | exact ka319 | exact ka320 | exact ka321 | exact ka322) (by assumption) rfl ?_
    refine q_iload_n hJ dX11_runs_112 (q := 113) rfl rfl ?_
    refine q_sipush hJ (v := 229) dX11_runs_113 (q := 116) rfl (by decide) ?_
    refine q_iadd hJ dX11_runs_116 (q := 117) rfl ?_
    refine q_dup2 hJ dX11_runs_117 (q := 118) rfl rfl rfl ?_
    refine q_iald hJ dX11_runs_118 (q := 119) rfl (by first | exact ka317 | exact ka318 | exact ka319 | exact ka320 | exact ka321 | exact ka322) (ixE (j := p + 229) (by ((try simp only [nIl_add, nI_mul, nIl_0, nIl_1, nIl_2, nIl_3, nIl_4, nIl_5, nIl_6, nIl_7, nIl_8, nIl_9, nIl_10, nIl_11, nIl_12, nIl_20, nIl_60, nIl_72, nIl_80, nIl_81, nIl_82, nIl_99, nIl_100, nIl_226, nIl_227, nIl_228, nIl_229, nIl_230, nIl_231, nIl_232, nIl_233, nIl_413, nIl_1239, nIl_10000]) <;> first | done | rfl | exact congrArg nI (by omega))) (by omega) (by decide)) (show _ = aS (xA X) 3 by rw [up2_i (by omega)]; exact hS 3 (by decide)) ?_
    refine q_aload_n hJ dX11_runs_119 (q := 120) rfl rfl (by first | rfl | exact isR_rr _) ?_
    refine q_getI hJ dX11_runs_120 (q := 123) rfl fl_X11_64 rfl (by first | exact ka317 | exact ka318 | exact ka319 | exact ka320 | exact ka321 | exact ka322) (show _ = nI (xO X) by rw [up2_i (by omega)]; exact he.2.2.1) ?_
    refine q_iadd hJ dX11_runs_123 (q := 124) rfl ?_
    refine q_iast hJ dX11_runs_124 (q := 125) rfl (by first | exact ka317 | exact ka318 | exact ka319 | exact ka320 | exact ka321 | exact ka322) (ixE (j := p + 229) (by ((try simp only [nIl_add, nI_mul, nIl_0, nIl_1, nIl_2, nIl_3, nIl_4, nIl_5, nIl_6, nIl_7, nIl_8, nIl_9, nIl_10, nIl_11, nIl_12, nIl_20, nIl_60, nIl_72, nIl_80, nIl_81, nIl_82, nIl_99, nIl_100, nIl_226, nIl_227, nIl_228, nIl_229, nIl_230, nIl_231, nIl_232, nIl_233, nIl_413, nIl_1239, nIl_10000]) <;> first | done | rfl | exact congrArg nI (by omega))) (by omega) (by decide)) ?_
    refine q_aload_n hJ dX11_runs_125 (q := 126) rfl rfl (by first | rfl | exact isR_rr _) ?_
    refine q_getR hJ dX11_runs_126 (q := 129) rfl fl_X11_7 rfl (by first | exact ka317 | exact ka318 | exact ka319 | exact ka320 | exact ka321 | exact ka322) (by assumption) rfl ?_
    refine q_iload_n hJ dX11_runs_129 (q := 130) rfl rfl ?_
    refine q_sipush hJ (v := 230) dX11_runs_130 (q := 133) rfl (by decide) ?_
    refine q_iadd hJ dX11_runs_133 (q := 134) rfl ?_
    refine q_dup2 hJ dX11_runs_134 (q := 135) rfl rfl rfl ?_
    refine q_iald hJ dX11_runs_135 (q := 136) rfl (by first | exact ka317 | exact ka318 | exact ka319 | exact ka320 | exact ka321 | exact ka322) (ixE (j := p + 230) (by ((try simp only [nIl_add, nI_mul, nIl_0, nIl_1, nIl_2, nIl_3, nIl_4, nIl_5, nIl_6, nIl_7, nIl_8, nIl_9, nIl_10, nIl_11, nIl_12, nIl_20, nIl_60, nIl_72, nIl_80, nIl_81, nIl_82, nIl_99, nIl_100, nIl_226, nIl_227, nIl_228, nIl_229, nIl_230, nIl_231, nIl_232, nIl_233, nIl_413, nIl_1239, nIl_10000]) <;> first | done | rfl | exact congrArg nI (by omega))) (by omega) (by decide)) (show _ = aS (xA X) 4 by rw [up2_i (by omega), up2_i (by omega)]; exact hS 4 (by decide)) ?_
    refine q_aload_n hJ dX11_runs_136 (q := 137) rfl rfl (by first | rfl | exact isR_rr _) ?_
    refine q_getI hJ dX11_runs_137 (q := 140) rfl fl_X11_83 rfl (by first | exact ka317 | exact ka318 | exact ka319 | exact ka320 | exact ka321 | exact ka322) (show _ = xF X by rw [up2_i (by omega), up2_i (by omega)]; exact he.2.2.2.1) ?_
    refine q_iadd hJ dX11_runs_140 (q := 141) rfl ?_
    refine q_iast hJ dX11_runs_141 (q := 142) rfl (by first | exact ka317 | exact ka318 | exact ka319 | exact ka320 | exact ka321 | exact ka322) (ixE (j := p + 230) (by ((try simp only [nIl_add, nI_mul, nIl_0, nIl_1, nIl_2, nIl_3, nIl_4, nIl_5, nIl_6, nIl_7, nIl_8, nIl_9, nIl_10, nIl_11, nIl_12, nIl_20, nIl_60, nIl_72, nIl_80, nIl_81, nIl_82, nIl_99, nIl_100, nIl_226, nIl_227, nIl_228, nIl_229, nIl_230, nIl_231, nIl_232, nIl_233, nIl_413, nIl_1239, nIl_10000]) <;> first | done | rfl | exact congrArg nI (by omega))) (by omega) (by decide)) ?_
    refine q_aload_n hJ dX11_runs_142 (q := 143) rfl rfl (by first | rfl | exact isR_rr _) ?_
    refine q_getR hJ dX11_runs_143 (q := 146) rfl fl_X11_7 rfl (by first | exact ka317 | exact ka318 | exact ka319 | exact ka320 | exact ka321 | exact ka322) (by assumption) rfl ?_
    refine q_iload_n hJ dX11_runs_146 (q := 147) rfl rfl ?_
    refine q_sipush hJ (v := 231) dX11_runs_147 (q := 150) rfl (by decide) ?_
    refine q_iadd hJ dX11_runs_150 (q := 151) rfl ?_
    refine q_aload_n hJ dX11_runs_151 (q := 152) rfl rfl (by first | rfl | exact isR_rr _) ?_
    refine q_getI hJ dX11_runs_152 (q := 155) rfl fl_X11_70 rfl (by first | exact ka317 | exact ka318 | exact ka319 | exact ka320 | exact ka321 | exact ka322) (show _ = xD X by rw [up2_i (by omega), up2_i (by omega), up2_i (by omega)]; exact he.2.2.2.2.1) ?_
    refine q_aload_n hJ dX11_runs_155 (q := 156) rfl rfl (by first | rfl | exact isR_rr _) ?_
    refine q_getR hJ dX11_runs_156 (q := 159) rfl fl_X11_7 rfl (by first | exact ka317 | exact ka318 | exact ka319 | exact ka320 | exact ka321 | exact ka322) (by assumption) rfl ?_
    refine q_iload_n hJ dX11_runs_159 (q := 160) rfl rfl ?_
    refine q_sipush hJ (v := 231) dX11_runs_160 (q := 163) rfl (by decide) ?_
    refine q_iadd hJ dX11_runs_163 (q := 164) rfl ?_
    refine q_iald hJ dX11_runs_164 (q := 165) rfl (by first | exact ka317 | exact ka318 | exact ka319 | exact ka320 | exact ka321 | exact ka322) (ixE (j := p + 231) (by ((try simp only [nIl_add, nI_mul, nIl_0, nIl_1, nIl_2, nIl_3, nIl_4, nIl_5, nIl_6, nIl_7, nIl_8, nIl_9, nIl_10, nIl_11, nIl_12, nIl_20, nIl_60, nIl_72, nIl_80, nIl_81, nIl_82, nIl_99, nIl_100, nIl_226, nIl_227, nIl_228, nIl_229, nIl_230, nIl_231, nIl_232, nIl_233, nIl_413, nIl_1239, nIl_10000]) <;> first | done | rfl | exact congrArg nI (by omega))) (by omega) (by decide)) (show _ = aS (xA X) 5 by rw [up2_i (by omega), up2_i (by omega), up2_i (by omega)]; exact hS 5 (by decide)) ?_
    refine q_icmp_le hJ (tgt := 175) dX11_runs_165 (q := 168) rfl (by decide) (fun c9 => ?_) (fun c9 => ?_)
    · refine q_aload_n hJ dX11_runs_175 (q := 176) rfl rfl (by first | rfl | exact isR_rr _) ?_
      refine q_getR hJ dX11_runs_176 (q := 179) rfl fl_X11_7 rfl (by first | exact ka317 | exact ka318 | exact ka319 | exact ka320 | exact ka321 | exact ka322) (by assumption) rfl ?_
      refine q_iload_n hJ dX11_runs_179 (q := 180) rfl rfl ?_
      refine q_sipush hJ (v := 231) dX11_runs_180 (q := 183) rfl (by decide) ?_
      refine q_iadd hJ dX11_runs_183 (q := 184) rfl ?_
      refine q_iald hJ dX11_runs_184 (q := 185) rfl (by first | exact ka317 | exact ka318 | exact ka319 | exact ka320 | exact ka321 | exact ka322) (ixE (j := p + 231) (by ((try simp only [nIl_add, nI_mul, nIl_0, nIl_1, nIl_2, nIl_3, nIl_4, nIl_5, nIl_6, nIl_7, nIl_8, nIl_9, nIl_10, nIl_11, nIl_12, nIl_20, nIl_60, nIl_72, nIl_80, nIl_81, nIl_82, nIl_99, nIl_100, nIl_226, nIl_227, nIl_228, nIl_229, nIl_230, nIl_231, nIl_232, nIl_233, nIl_413, nIl_1239, nIl_10000]) <;> first | done | rfl | exact congrArg nI (by omega))) (by omega) (by decide)) (show _ = aS (xA X) 5 by rw [up2_i (by omega), up2_i (by omega), up2_i (by omega)]; exact hS 5 (by decide)) ?_
      refine q_iast hJ dX11_runs_185 (q := 186) rfl (by first | exact ka317 | exact ka318 | exact ka319 | exact ka320 | exact ka321 | exact ka322) (ixE (j := p + 231) (by ((try simp only [nIl_add, nI_mul, nIl_0, nIl_1, nIl_2, nIl_3, nIl_4, nIl_5, nIl_6, nIl_7, nIl_8, nIl_9, nIl_10, nIl_11, nIl_12, nIl_20, nIl_60, nIl_72, nIl_80, nIl_81, nIl_82, nIl_99, nIl_100, nIl_226, nIl_227, nIl_228, nIl_229, nIl_230, nIl_231, nIl_232, nIl_233, nIl_413, nIl_1239, nIl_10000]) <;> first | done | rfl | exact congrArg nI (by omega))) (by omega) (by decide)) ?_
      refine q_vret hM dX11_runs_186 rfl ?_
      have hfin := he.fin (I' := up2 (up2 (up2 (up2 I2 318 (p + 228) (aS (xA X) 2 + 1)) 318 (p + 229) (aS (xA X) 3 + nI (xO X))) 318 (p + 230) (aS (xA X) 4 + xF X)) 318 (p + 231) (if aS (xA X) 5 < xD X then xD X else aS (xA X) 5)) (by rw [up2_i (by omega), up2_i (by omega), up2_i (by omega), up2_self]) (by rw [up2_i (by omega), up2_i (by omega), up2_self]) (by rw [up2_i (by omega), up2_self]) (by rw [up2_self]) (fun i hi => by rw [up2_i (by omega), up2_i (by omega), up2_i (by omega), up2_i (by omega)])
      have kp := (((hk.u318 (k := p + 228) (by omega) (aS (xA X) 2 + 1)).u318 (k := p + 229) (by omega) (aS (xA X) 3 + nI (xO X))).u318 (k := p + 230) (by omega) (aS (xA X) 4 + xF X)).u318 (k := p + 231) (by omega) (if aS (xA X) 5 < xD X then xD X else aS (xA X) 5)
      first | rw [if_pos (Int32.not_le.mp c9)] at hfin kp | rw [if_neg (Int32.not_lt.mpr c9)] at hfin kp
      exact ⟨rfl, rfl, rfl, kp, hfin.1, hfin.2, by rw [up2_i (by omega), up2_i (by omega), up2_i (by omega), up2_i (by omega)]; exact he.2.2.1, by rw [up2_i (by omega), up2_i (by omega), up2_i (by omega), up2_i (by omega)]; exact he.2.2.2.1, by rw [up2_i (by omega), up2_i (by omega), up2_i (by omega), up2_i (by omega)]; exact he.2.2.2.2.1, by rw [up2_i (by omega), up2_i (by omega), up2_i (by omega), up2_i (by omega)]; exact he.2.2.2.2.2.1, by rw [up2_i (by omega), up2_i (by omega), up2_i (by omega), up2_i (by omega)]; exact he.2.2.2.2.2.2⟩
    · refine q_aload_n hJ dX11_runs_168 (q := 169) rfl rfl (by first | rfl | exact isR_rr _) ?_
      refine q_getI hJ dX11_runs_169 (q := 172) rfl fl_X11_70 rfl (by first | exact ka317 | exact ka318 | exact ka319 | exact ka320 | exact ka321 | exact ka322) (show _ = xD X by rw [up2_i (by omega), up2_i (by omega), up2_i (by omega)]; exact he.2.2.2.2.1) ?_
      refine q_goto hJ (tgt := 185) dX11_runs_172 (by decide) ?_
      refine q_iast hJ dX11_runs_185 (q := 186) rfl (by first | exact ka317 | exact ka318 | exact ka319 | exact ka320 | exact ka321 | exact ka322) (ixE (j := p + 231) (by ((try simp only [nIl_add, nI_mul, nIl_0, nIl_1, nIl_2, nIl_3, nIl_4, nIl_5, nIl_6, nIl_7, nIl_8, nIl_9, nIl_10, nIl_11, nIl_12, nIl_20, nIl_60, nIl_72, nIl_80, nIl_81, nIl_82, nIl_99, nIl_100, nIl_226, nIl_227, nIl_228, nIl_229, nIl_230, nIl_231, nIl_232, nIl_233, nIl_413, nIl_1239, nIl_10000]) <;> first | done | rfl | exact congrArg nI (by omega))) (by omega) (by decide)) ?_
      refine q_vret hM dX11_runs_186 rfl ?_
      have hfin := he.fin (I' := up2 (up2 (up2 (up2 I2 318 (p + 228) (aS (xA X) 2 + 1)) 318 (p + 229) (aS (xA X) 3 + nI (xO X))) 318 (p + 230) (aS (xA X) 4 + xF X)) 318 (p + 231) (if aS (xA X) 5 < xD X then xD X else aS (xA X) 5)) (by rw [up2_i (by omega), up2_i (by omega), up2_i (by omega), up2_self]) (by rw [up2_i (by omega), up2_i (by omega), up2_self]) (by rw [up2_i (by omega), up2_self]) (by rw [up2_self]) (fun i hi => by rw [up2_i (by omega), up2_i (by omega), up2_i (by omega), up2_i (by omega)])
      have kp := (((hk.u318 (k := p + 228) (by omega) (aS (xA X) 2 + 1)).u318 (k := p + 229) (by omega) (aS (xA X) 3 + nI (xO X))).u318 (k := p + 230) (by omega) (aS (xA X) 4 + xF X)).u318 (k := p + 231) (by omega) (if aS (xA X) 5 < xD X then xD X else aS (xA X) 5)
      first | rw [if_pos (Int32.not_le.mp c9)] at hfin kp | rw [if_neg (Int32.not_lt.mpr c9)] at hfin kp
      exact ⟨rfl, rfl, rfl, kp, hfin.1, hfin.2, by rw [up2_i (by omega), up2_i (by omega), up2_i (by omega), up2_i (by omega)]; exact he.2.2.1, by rw [up2_i (by omega), up2_i (by omega), up2_i (by omega), up2_i (by omega)]; exact he.2.2.2.1, by rw [up2_i (by omega), up2_i (by omega), up2_i (by omega), up2_i (by omega)]; exact he.2.2.2.2.1, by rw [up2_i (by omega), up2_i (by omega), up2_i (by omega), up2_i (by omega)]; exact he.2.2.2.2.2.1, by rw [up2_i (by omega), up2_i (by omega), up2_i (by omega), up2_i (by omega)]; exact he.2.2.2.2.2.2⟩
  refine q_aload_n hJ dX11_runs_0 (q := 1) rfl rfl (by first | rfl | exact isR_rr _) ?_
  refine q_iconst hJ (v := 0) dX11_runs_1 (q := 2) rfl (by decide) ?_
  refine q_putI hJ dX11_runs_2 (q := 5) rfl fl_X11_64 rfl rfl (by first | exact ka317 | exact ka318 | exact ka319 | exact ka320 | exact ka321 | exact ka322) rfl rfl ?_
  refine q_aload_n hJ dX11_runs_5 (q := 6) rfl rfl (by first | rfl | exact isR_rr _) ?_
  refine q_iconst hJ (v := 0) dX11_runs_6 (q := 7) rfl (by decide) ?_
  refine q_putI hJ dX11_runs_7 (q := 10) rfl fl_X11_83 rfl rfl (by first | exact ka317 | exact ka318 | exact ka319 | exact ka320 | exact ka321 | exact ka322) rfl rfl ?_
  refine q_aload_n hJ dX11_runs_10 (q := 11) rfl rfl (by first | rfl | exact isR_rr _) ?_
  refine q_iconst hJ (v := 0) dX11_runs_11 (q := 12) rfl (by decide) ?_
  refine q_putI hJ dX11_runs_12 (q := 15) rfl fl_X11_70 rfl rfl (by first | exact ka317 | exact ka318 | exact ka319 | exact ka320 | exact ka321 | exact ka322) rfl rfl ?_
  refine q_aload_n hJ dX11_runs_15 (q := 16) rfl rfl (by first | rfl | exact isR_rr _) ?_
  refine q_iconst hJ (v := 0) dX11_runs_16 (q := 17) rfl (by decide) ?_
  refine q_putI hJ dX11_runs_17 (q := 20) rfl fl_X11_48 rfl rfl (by first | exact ka317 | exact ka318 | exact ka319 | exact ka320 | exact ka321 | exact ka322) rfl rfl ?_
  refine q_aload_n hJ dX11_runs_20 (q := 21) rfl rfl (by first | rfl | exact isR_rr _) ?_
  refine q_sipush hJ (v := (-1006)) dX11_runs_21 (q := 24) rfl (by decide) ?_
  refine q_putI hJ dX11_runs_24 (q := 27) rfl fl_X11_51 rfl rfl (by first | exact ka317 | exact ka318 | exact ka319 | exact ka320 | exact ka321 | exact ka322) rfl rfl ?_
  refine q_aload_n hJ dX11_runs_27 (q := 28) rfl rfl (by first | rfl | exact isR_rr _) ?_
  refine q_getR hJ dX11_runs_28 (q := 31) rfl fl_X11_7 rfl (by first | exact ka317 | exact ka318 | exact ka319 | exact ka320 | exact ka321 | exact ka322) (by assumption) rfl ?_
  refine q_iload_n hJ dX11_runs_31 (q := 32) rfl rfl ?_
  refine q_sipush hJ (v := 232) dX11_runs_32 (q := 35) rfl (by decide) ?_
  refine q_iadd hJ dX11_runs_35 (q := 36) rfl ?_
  refine q_iconst hJ (v := 0) dX11_runs_36 (q := 37) rfl (by decide) ?_
  refine q_iast hJ dX11_runs_37 (q := 38) rfl (by first | exact ka317 | exact ka318 | exact ka319 | exact ka320 | exact ka321 | exact ka322) (ixE (j := p + 232) (by ((try simp only [nIl_add, nI_mul, nIl_0, nIl_1, nIl_2, nIl_3, nIl_4, nIl_5, nIl_6, nIl_7, nIl_8, nIl_9, nIl_10, nIl_11, nIl_12, nIl_20, nIl_60, nIl_72, nIl_80, nIl_81, nIl_82, nIl_99, nIl_100, nIl_226, nIl_227, nIl_228, nIl_229, nIl_230, nIl_231, nIl_232, nIl_233, nIl_413, nIl_1239, nIl_10000]) <;> first | done | rfl | exact congrArg nI (by omega))) (by omega) (by decide)) ?_
  refine q_aload_n hJ dX11_runs_38 (q := 39) rfl rfl (by first | rfl | exact isR_rr _) ?_
  refine q_iload_n hJ dX11_runs_39 (q := 40) rfl rfl ?_
  refine q_iconst hJ (v := 1) dX11_runs_40 (q := 41) rfl (by decide) ?_
  refine q_iload_n hJ dX11_runs_41 (q := 42) rfl rfl ?_
  refine q_iload_n hJ dX11_runs_42 (q := 43) rfl rfl ?_
  refine q_callV hJ dX11_runs_43 (q := 46) rfl (M_begins p 1 a hp (by decide) (by decide) ha ev v ca img (X0 A) _ R hFR (EM.zero hM0 ok) (show (0 : Nat) ≤ 100 by decide) hE (by rw [up2_i (by omega), up2_i (by omega), up2_i (by omega), up2_i (by omega), up2_i (by omega), up2_i (by omega)]; exact hev) (fun t ht => by rw [up2_i (by omega), up2_i (by omega), up2_i (by omega), up2_i (by omega), up2_i (by omega), up2_i (by omega)]; exact hi t ht) (by rw [up2_i (by omega), up2_i (by omega), up2_i (by omega), up2_i (by omega), up2_i (by omega), up2_i (by omega)]; exact hca)) imX11_begins ln_X11_90 (by first | exact ka317 | exact ka318 | exact ka319 | exact ka320 | exact ka321 | exact ka322) (by decide) rfl rfl rfl rfl (Nat.le_of_ble_eq_true rfl) (by decide) (by decide) rfl rfl (fun rv gv Iv Rv hv => ?_)
  obtain ⟨rfl, rfl, hk1, hf1, h5⟩ := hv
  have hbb : bgP (xA (X0 A)) ev img a v = some img2 := hb
  rcases h5 with ⟨e, _⟩ | ⟨img3, e, ⟨e2, _⟩ | ⟨e2, rfl, hX1, hfr1⟩⟩
  · rw [hbb] at e; exact absurd e (by simp)
  · exact absurd e2 (show ¬ 100 ≤ 0 by decide)
  have e3 : img2 = img3 := by rw [hbb] at e; exact Option.some.inj e
  subst e3
  have hk0 : Kp p I Iv := ((((((Kp.rf p I).u317 (by decide) _).u317 (by decide) _).u317 (by decide) _).u317 (by decide) _).u317 (by decide) _ |>.u318 (by omega) _).tr hk1
  refine q_if_eq hJ (tgt := 53) dX11_runs_46 (q := 49) rfl (by decide) (fun c1 => absurd c1 (by decide)) (fun _ => ?_)
  refine q_iconst hJ (v := 1) dX11_runs_49 (q := 50) rfl (by decide) ?_
  refine q_goto hJ (tgt := 54) dX11_runs_50 (by decide) ?_
  refine q_istore hJ dX11_runs_54 (q := 56) rfl (by decide) ?_
  refine q_iconst hJ (v := 0) dX11_runs_56 (q := 57) rfl (by decide) ?_
  refine q_istore hJ dX11_runs_57 (q := 59) rfl (by decide) ?_
  have eX : opA 7 [] ev (-1006) img2 (X0 A) = opC (subL 7 []) 1 [] ev img2 (begA 1 (X0 A)) := by rw [opA_eq 7 (by decide)]; exact if_neg (show ¬ 100 ≤ 0 by decide)
  have hcan : CanC (xA (begA 1 (X0 A))) ev img2 ∧ ∃ q, q < 100 ∧ img2 0 = nI q := bg_can ok ha hE hb
  refine sim_lv hJ hp hFR 7 (by decide) [] ev img2 ca (begA 1 (X0 A)) Iv 0 0 hX1 rfl (show (1 : Nat) ≤ 100 by decide) hfr1 hcan.2 hcan.1 hE (fun q hq => ⟨fun ⟨k, k1, k2, _⟩ => absurd k2 (by omega), fun z => absurd z (by simp)⟩) (fun G hG => ?_) (show 0 + 26 + 0 ≤ 26 * 1 by decide) ⟨fun I2 k2 a2 b2 c2 e2 f2 => ?_, fun I2 k2 d2 a2 b2 c2 e2 f2 => ?_⟩
  · obtain ⟨G', g1, g8, gG⟩ := ok.2.2
    rcases Nat.eq_zero_or_pos G with z | z
    · subst z
      have : nI G' = nI 0 := gG.symm.trans hG
      exact absurd ((nI_eq (by omega) (by decide)).mp this) (by omega)
    · exact z
  · rw [← eX] at a2
    exact hd_exit hJ hFR (Or.inl rfl) (tail I2 0 k2 a2 (hk0.tr b2))
  · rw [← eX] at a2 c2
    exact hd_exit hJ hFR (Or.inr (by rw [a2.2.2.2.2.2.1]; exact c2)) (tail I2 d2 k2 a2 (hk0.tr b2))

