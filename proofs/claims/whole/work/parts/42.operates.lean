/-! THE MODEL: what a rule does -/
def OpsPo (p d r : Nat) (img : Nat → Int32) (X : XS) (I : MI) (R : MR) : Po := fun v g' I' R' => g0 = g' ∧ R = R' ∧ Kp p I I' ∧ (∀ i, i < 8 * (d + 1) ∨ 8 * (d + 1) + 8 ≤ i → I' 322 i = I 322 i) ∧ ((prepA (xA X) (aU (xA X) r) img = none ∧ v = some (.int 0) ∧ EM I' p X) ∨ ∃ img2, prepA (xA X) (aU (xA X) r) img = some img2 ∧ ((100 ≤ xO X ∧ v = some (.int 0) ∧ EM I' p (refA X 3 (nI r))) ∨ (xO X < 100 ∧ v = some (.int 1) ∧ EM I' p (begA (d + 1) X) ∧ FrP I' (d + 1) (aU (xA X) r 3 - 3) img2 0 0 (nI r))))
theorem inR_n3 {t : Nat} (h : t < 3) : inR (nI t) 0 3 = 1 := by
  rcases (show t = 0 ∨ t = 1 ∨ t = 2 by omega) with rfl | rfl | rfl <;> decide
theorem n_02 {x : Int32} (h : inR x 0 2 = 1) : ∃ a, a < 3 ∧ x = nI a := by
  rcases in_02 h with rfl | rfl | rfl
  · exact ⟨0, by decide, rfl⟩
  · exact ⟨1, by decide, rfl⟩
  · exact ⟨2, by decide, rfl⟩
theorem BgPo.val {p d a : Nat} {img : Nat → Int32} {X : XS} {ev v ca : Int32} {I : MI} {R : MR} {r : Option Value} {g' : Geo} {I' : MI} {R' : MR} (h : BgPo p d X ev img a v ca I R r g' I' R') : ∃ x, (x = 0 ∨ x = 1) ∧ r = some (.int x) := by
  obtain ⟨_, _, _, _, h5⟩ := h
  rcases h5 with ⟨_, h, _⟩ | ⟨_, _, ⟨_, h, _⟩ | ⟨_, h, _⟩⟩
  · exact ⟨0, Or.inl rfl, h⟩
  · exact ⟨0, Or.inl rfl, h⟩
  · exact ⟨1, Or.inr rfl, h⟩
theorem OpsPo.val {p d r : Nat} {img : Nat → Int32} {X : XS} {I : MI} {R : MR} {v : Option Value} {g' : Geo} {I' : MI} {R' : MR} (h : OpsPo p d r img X I R v g' I' R') : ∃ x, (x = 0 ∨ x = 1) ∧ v = some (.int x) := by
  obtain ⟨_, _, _, _, h5⟩ := h
  rcases h5 with ⟨_, h, _⟩ | ⟨_, _, ⟨_, h, _⟩ | ⟨_, h, _⟩⟩
  · exact ⟨0, Or.inl rfl, h⟩
  · exact ⟨0, Or.inl rfl, h⟩
  · exact ⟨1, Or.inr rfl, h⟩
theorem OpsPo.of {p d r a : Nat} {img img' : Nat → Int32} {X : XS} {I I1 : MI} {R : MR} {v : Option Value} {g' : Geo} {I' : MI} {R' : MR} {ev x : Int32} (hb : bgP (xA X) ev img' a x = prepA (xA X) (aU (xA X) r) img) (he : aU (xA X) r 3 - 3 = ev) (hk : Kp p I I1) (hf : ∀ i, i < 8 * (d + 1) ∨ 8 * (d + 1) + 8 ≤ i → I1 322 i = I 322 i) (h : BgPo p (d + 1) X ev img' a x (nI r) I1 R v g' I' R') : OpsPo p d r img X I R v g' I' R' := by
  obtain ⟨h1, h2, h3, h4, h5⟩ := h
  refine ⟨h1, h2, hk.tr h3, fun i hi => (h4 i hi).trans (hf i hi), ?_⟩
  rw [← hb, he]
  exact h5
set_option maxRecDepth 100000 in
set_option maxHeartbeats 800000 in
theorem M_operates (p d r : Nat) (hp : p ≤ 413) (h1d : 1 ≤ d) (hd : d < 8) (v : Int32) (img : Nat → Int32) (X : XS) (I : MI) (R : MR) (hFR : FR R) (hX : EM I p X) (hx100 : xO X ≤ 100) (hr : r < aM (xA X)) (hkind : aU (xA X) r 3 = 3 ∨ aU (xA X) r 3 = 4 ∨ aU (xA X) r 3 = 5) (hi : ∀ t, t < 4 → I 322 (8 * d + 1 + t) = img t) (hq : ∃ q, q < 100 ∧ img 0 = nI q) (hvv : v = valF (aU (xA X) r) img) : Sp 4 0 0 mX11_operates [.ref 317, .int (nI p), .int (nI r), .int (nI d), .int v] g0 I R (OpsPo p d r img X I R) := by
  have hm0 := hFR.2.2.2.2.2.1
  have hm1 := hFR.2.2.2.2.2.2.1
  have hm3 := hFR.2.2.2.2.2.2.2.1
  have hm5 := hFR.2.2.2.2.2.2.2.2.1
  have hm7 := hFR.2.2.2.2.2.2.2.2.2
  obtain ⟨⟨hR, hU, hS, hL⟩, hok, hc⟩ := id hX
  have hm := hU.2.1
  have hku := hok.2.1 r hr
  obtain ⟨a, ha, hA⟩ := n_02 hku.2.1.1
  refine Sp.on (by decide +kernel) rfl rfl (fun J hM => ?_)
  have hJ := hM.ok
  rcases hkind with hK | hK | hK
  · have loop : ∀ (k t : Nat), k + t = 3 → J 0 0 57 [some (.ref 317), some (.int (nI p)), some (.int (nI r)), some (.int (nI d)), some (.int v), some (.int (nI (d + 1))), some (.int (nI t))] [] g0 (fw (up2 (up2 (up2 I 322 (8 * (d + 1) + 0) (0)) 322 (8 * (d + 1) + 1) (v)) 322 (8 * (d + 1) + 7) (nI r)) 322 (8 * (d + 1) + 2) (fun s => img (1 + s)) t) R := by
      intro k
      induction k with
      | zero =>
        intro t hm2
        refine q_iload hJ dX11_operates_57 (q := 59) rfl rfl ?_
        refine q_iconst hJ (v := 3) dX11_operates_59 (q := 60) rfl (by decide) ?_
        refine q_icmp_ge hJ (tgt := 91) dX11_operates_60 (q := 63) rfl (by decide) (fun _ => ?_) (fun c3 => absurd ((nI_leI (a := 3) (b := t) (by omega) (by omega)).mpr (by omega)) c3)
        refine q_aload_n hJ dX11_operates_91 (q := 92) rfl rfl (by first | rfl | exact isR_rr _) ?_
        refine q_iload_n hJ dX11_operates_92 (q := 93) rfl rfl ?_
        refine q_iload hJ dX11_operates_93 (q := 95) rfl rfl ?_
        refine q_iconst hJ (v := 0) dX11_operates_95 (q := 96) rfl (by decide) ?_
        refine q_iconst hJ (v := 0) dX11_operates_96 (q := 97) rfl (by decide) ?_
        have et : t = 3 := by omega
        subst et
        have hX1 : EM (fw (up2 (up2 (up2 I 322 (8 * (d + 1) + 0) (0)) 322 (8 * (d + 1) + 1) (v)) 322 (8 * (d + 1) + 7) (nI r)) 322 (8 * (d + 1) + 2) (fun s => img (1 + s)) 3) p X := hX.of (fun k _ _ => by rw [fw_o (by decide), up2_i (by omega), up2_i (by omega), up2_i (by omega)]) (fun k _ _ => by rw [fw_o (by decide), up2_i (by omega), up2_i (by omega), up2_i (by omega)])
        have hI1 : ∀ s, s < 4 → fw (up2 (up2 (up2 I 322 (8 * (d + 1) + 0) (0)) 322 (8 * (d + 1) + 1) (v)) 322 (8 * (d + 1) + 7) (nI r)) 322 (8 * (d + 1) + 2) (fun s => img (1 + s)) 3 322 (8 * (d + 1) + 1 + s) = (if s = 0 then v else img s) := fun s hs => by
            by_cases e : s = 0
            · rw [if_pos e, e, fw_out (by omega), up2_i (by omega), Nat.add_zero, up2_self]
            · rw [if_neg e, fw_eq (by omega) (by omega)]; congr 1; omega
        refine q_callV hJ dX11_operates_97 (q := 100) rfl (M_begins p (d + 1) 0 hp (by omega) (by omega) (by decide) 0 0 (nI r) (fun j => if j = 0 then v else img j) X _ R hFR hX1 hx100 (Or.inl rfl) (by rw [fw_out (by omega), up2_i (by omega), up2_i (by omega), up2_self]) hI1 (by rw [fw_out (by omega), up2_self])) imX11_begins ln_X11_90 (by first | exact ka317 | exact ka318 | exact ka319 | exact ka320 | exact ka321 | exact ka322) (by decide) rfl rfl rfl rfl (Nat.le_of_ble_eq_true rfl) (by decide) (by decide) rfl rfl (fun rv gv Iv Rv hv => ?_)
        obtain ⟨x, hx, rfl⟩ := BgPo.val hv
        refine q_iret hM dX11_operates_100 rfl (nz rfl hx) ?_
        refine OpsPo.of ?_ ?_ ?_ ?_ hv
        · show (if (0 : Int32) = 0 then (if cantA (xA X) v = 0 then none else some (fun j => if j = 0 then v else img j)) else _) = _
          rw [if_pos rfl, prepA, if_pos hK, ← hvv]
        · rw [hK]; rfl
        · exact ((((Kp.rf p I).u322 _ _).u322 _ _).u322 _ _).tr ⟨fun a _ _ h3 => fw_o h3, fun _ _ => congrFun (fw_o (by decide)) _, fun _ _ => congrFun (fw_o (by decide)) _⟩
        · intro i hi; rw [fw_out (by omega), up2_i (by omega), up2_i (by omega), up2_i (by omega)]
      | succ k ih =>
        intro t hm2
        refine q_iload hJ dX11_operates_57 (q := 59) rfl rfl ?_
        refine q_iconst hJ (v := 3) dX11_operates_59 (q := 60) rfl (by decide) ?_
        refine q_icmp_ge hJ (tgt := 91) dX11_operates_60 (q := 63) rfl (by decide) (fun c3 => absurd ((nI_leI (a := 3) (b := t) (by omega) (by omega)).mp c3) (by omega)) (fun _ => ?_)
        refine q_aload_n hJ dX11_operates_63 (q := 64) rfl rfl (by first | rfl | exact isR_rr _) ?_
        refine q_getR hJ dX11_operates_64 (q := 67) rfl fl_X11_22 rfl (by first | exact ka317 | exact ka318 | exact ka319 | exact ka320 | exact ka321 | exact ka322) (by assumption) rfl ?_
        refine q_bipush hJ (v := 8) dX11_operates_67 (q := 69) rfl (by decide) ?_
        refine q_iload hJ dX11_operates_69 (q := 71) rfl rfl ?_
        refine q_imul hJ dX11_operates_71 (q := 72) rfl ?_
        refine q_iconst hJ (v := 2) dX11_operates_72 (q := 73) rfl (by decide) ?_
        refine q_iadd hJ dX11_operates_73 (q := 74) rfl ?_
        refine q_iload hJ dX11_operates_74 (q := 76) rfl rfl ?_
        refine q_iadd hJ dX11_operates_76 (q := 77) rfl ?_
        refine q_aload_n hJ dX11_operates_77 (q := 78) rfl rfl (by first | rfl | exact isR_rr _) ?_
        refine q_iload_n hJ dX11_operates_78 (q := 79) rfl rfl ?_
        refine q_iload hJ dX11_operates_79 (q := 81) rfl rfl ?_
        refine q_callV hJ dX11_operates_81 (q := 84) rfl (M_image d (by omega) (nI t) img _ R hFR (inR_n3 (by omega)) (fun s hs => by rw [fw_out (by omega), up2_i (by omega), up2_i (by omega), up2_i (by omega)]; exact hi s hs)) imX11_image ln_X11_77 (by first | exact ka317 | exact ka318 | exact ka319 | exact ka320 | exact ka321 | exact ka322) (by decide) rfl rfl rfl rfl (Nat.le_of_ble_eq_true rfl) (by decide) (by decide) rfl rfl (fun rv gv Iv Rv hv => ?_)
        obtain ⟨rfl, rfl, rfl, rfl⟩ := hv
        rw [rowF_n (show t < 3 by omega)]
        refine q_iast hJ dX11_operates_84 (q := 85) rfl (by first | exact ka317 | exact ka318 | exact ka319 | exact ka320 | exact ka321 | exact ka322) (ixE (j := 8 * (d + 1) + 2 + t) (by ((try simp only [nIl_add, nI_mul, nIl_0, nIl_1, nIl_2, nIl_3, nIl_4, nIl_5, nIl_6, nIl_7, nIl_8, nIl_9, nIl_10, nIl_11, nIl_12, nIl_20, nIl_60, nIl_72, nIl_80, nIl_81, nIl_82, nIl_99, nIl_100, nIl_226, nIl_227, nIl_228, nIl_229, nIl_230, nIl_231, nIl_232, nIl_233, nIl_413, nIl_1239, nIl_10000]) <;> first | done | rfl | exact congrArg nI (by omega))) (by omega) (by decide)) ?_
        refine q_iinc hJ dX11_operates_85 (q := 88) rfl (by decide) rfl (nI_1 t) ?_
        refine q_goto hJ (tgt := 57) dX11_operates_88 (by decide) ?_
        rw [fw_step (g := fun s => img (1 + s))]
        exact ih (t + 1) (by omega)
    refine q_iload_n hJ dX11_operates_0 (q := 1) rfl rfl ?_
    refine q_iconst hJ (v := 1) dX11_operates_1 (q := 2) rfl (by decide) ?_
    refine q_iadd hJ dX11_operates_2 (q := 3) rfl ?_
    rw [nI_1 d]
    refine q_istore hJ dX11_operates_3 (q := 5) rfl (by decide) ?_
    refine q_aload_n hJ dX11_operates_5 (q := 6) rfl rfl (by first | rfl | exact isR_rr _) ?_
    refine q_getR hJ dX11_operates_6 (q := 9) rfl fl_X11_7 rfl (by first | exact ka317 | exact ka318 | exact ka319 | exact ka320 | exact ka321 | exact ka322) (by assumption) rfl ?_
    refine q_iload_n hJ dX11_operates_9 (q := 10) rfl rfl ?_
    refine q_iload_n hJ dX11_operates_10 (q := 11) rfl rfl ?_
    refine q_callS hJ dX11_operates_11 (q := 14) rfl (M_ruleAt p r I R) imX11_ruleAt ln_X11_40 rfl rfl rfl (Nat.le_of_ble_eq_true rfl) (by decide) (by decide) rfl rfl (fun rv gv Iv Rv hv => ?_)
    obtain ⟨rfl, rfl, rfl, rfl⟩ := hv
    refine q_iconst hJ (v := 3) dX11_operates_14 (q := 15) rfl (by decide) ?_
    refine q_iadd hJ dX11_operates_15 (q := 16) rfl ?_
    refine q_iald hJ dX11_operates_16 (q := 17) rfl (by first | exact ka317 | exact ka318 | exact ka319 | exact ka320 | exact ka321 | exact ka322) (ixE (j := p + 82 + 12 * r + 3) (by ((try simp only [nIl_add, nI_mul, nIl_0, nIl_1, nIl_2, nIl_3, nIl_4, nIl_5, nIl_6, nIl_7, nIl_8, nIl_9, nIl_10, nIl_11, nIl_12, nIl_20, nIl_60, nIl_72, nIl_80, nIl_81, nIl_82, nIl_99, nIl_100, nIl_226, nIl_227, nIl_228, nIl_229, nIl_230, nIl_231, nIl_232, nIl_233, nIl_413, nIl_1239, nIl_10000]) <;> first | done | rfl | exact congrArg nI (by omega))) (by omega) (by decide)) (show _ = 3 from (hU.2.2 r hr 3 (by decide)).trans hK) ?_
    refine q_lsw hJ (off := 27) (tgt := 44) dX11_operates_17 (by decide) (by decide) (by decide) ?_
    refine q_aload_n hJ dX11_operates_44 (q := 45) rfl rfl (by first | rfl | exact isR_rr _) ?_
    refine q_iload hJ dX11_operates_45 (q := 47) rfl rfl ?_
    refine q_iconst hJ (v := 0) dX11_operates_47 (q := 48) rfl (by decide) ?_
    refine q_iload hJ dX11_operates_48 (q := 50) rfl rfl ?_
    refine q_iload_n hJ dX11_operates_50 (q := 51) rfl rfl ?_
    refine q_callV hJ dX11_operates_51 (q := 54) rfl (M_asks (d + 1) (by omega) 0 v (nI r) I R hFR) imX11_asks ln_X11_86 (by first | exact ka317 | exact ka318 | exact ka319 | exact ka320 | exact ka321 | exact ka322) (by decide) rfl rfl rfl rfl (Nat.le_of_ble_eq_true rfl) (by decide) (by decide) rfl rfl (fun rv gv Iv Rv hv => ?_)
    obtain ⟨rfl, rfl, rfl, rfl⟩ := hv
    refine q_iconst hJ (v := 0) dX11_operates_54 (q := 55) rfl (by decide) ?_
    refine q_istore hJ dX11_operates_55 (q := 57) rfl (by decide) ?_
    have h0 := loop 3 0 rfl
    rw [fw_0] at h0
    exact h0
  · refine q_iload_n hJ dX11_operates_0 (q := 1) rfl rfl ?_
    refine q_iconst hJ (v := 1) dX11_operates_1 (q := 2) rfl (by decide) ?_
    refine q_iadd hJ dX11_operates_2 (q := 3) rfl ?_
    rw [nI_1 d]
    refine q_istore hJ dX11_operates_3 (q := 5) rfl (by decide) ?_
    refine q_aload_n hJ dX11_operates_5 (q := 6) rfl rfl (by first | rfl | exact isR_rr _) ?_
    refine q_getR hJ dX11_operates_6 (q := 9) rfl fl_X11_7 rfl (by first | exact ka317 | exact ka318 | exact ka319 | exact ka320 | exact ka321 | exact ka322) (by assumption) rfl ?_
    refine q_iload_n hJ dX11_operates_9 (q := 10) rfl rfl ?_
    refine q_iload_n hJ dX11_operates_10 (q := 11) rfl rfl ?_
    refine q_callS hJ dX11_operates_11 (q := 14) rfl (M_ruleAt p r I R) imX11_ruleAt ln_X11_40 rfl rfl rfl (Nat.le_of_ble_eq_true rfl) (by decide) (by decide) rfl rfl (fun rv gv Iv Rv hv => ?_)
    obtain ⟨rfl, rfl, rfl, rfl⟩ := hv
    refine q_iconst hJ (v := 3) dX11_operates_14 (q := 15) rfl (by decide) ?_
    refine q_iadd hJ dX11_operates_15 (q := 16) rfl ?_
    refine q_iald hJ dX11_operates_16 (q := 17) rfl (by first | exact ka317 | exact ka318 | exact ka319 | exact ka320 | exact ka321 | exact ka322) (ixE (j := p + 82 + 12 * r + 3) (by ((try simp only [nIl_add, nI_mul, nIl_0, nIl_1, nIl_2, nIl_3, nIl_4, nIl_5, nIl_6, nIl_7, nIl_8, nIl_9, nIl_10, nIl_11, nIl_12, nIl_20, nIl_60, nIl_72, nIl_80, nIl_81, nIl_82, nIl_99, nIl_100, nIl_226, nIl_227, nIl_228, nIl_229, nIl_230, nIl_231, nIl_232, nIl_233, nIl_413, nIl_1239, nIl_10000]) <;> first | done | rfl | exact congrArg nI (by omega))) (by omega) (by decide)) (show _ = 4 from (hU.2.2 r hr 3 (by decide)).trans hK) ?_
    refine q_lsw hJ (off := 84) (tgt := 101) dX11_operates_17 (by decide) (by decide) (by decide) ?_
    refine q_aload_n hJ dX11_operates_101 (q := 102) rfl rfl (by first | rfl | exact isR_rr _) ?_
    refine q_iload hJ dX11_operates_102 (q := 104) rfl rfl ?_
    refine q_iconst hJ (v := 1) dX11_operates_104 (q := 105) rfl (by decide) ?_
    refine q_aload_n hJ dX11_operates_105 (q := 106) rfl rfl (by first | rfl | exact isR_rr _) ?_
    refine q_iload_n hJ dX11_operates_106 (q := 107) rfl rfl ?_
    refine q_iconst hJ (v := 3) dX11_operates_107 (q := 108) rfl (by decide) ?_
    refine q_callV hJ dX11_operates_108 (q := 111) rfl (M_image d (by omega) 3 img I R hFR rfl hi) imX11_image ln_X11_77 (by first | exact ka317 | exact ka318 | exact ka319 | exact ka320 | exact ka321 | exact ka322) (by decide) rfl rfl rfl rfl (Nat.le_of_ble_eq_true rfl) (by decide) (by decide) rfl rfl (fun rv gv Iv Rv hv => ?_)
    obtain ⟨rfl, rfl, rfl, rfl⟩ := hv
    rw [show rowF img 3 = img 0 from rfl]
    refine q_iconst hJ (v := 1) dX11_operates_111 (q := 112) rfl (by decide) ?_
    refine q_iadd hJ dX11_operates_112 (q := 113) rfl ?_
    refine q_bipush hJ (v := 100) dX11_operates_113 (q := 115) rfl (by decide) ?_
    refine q_irem hJ dX11_operates_115 (q := 116) rfl (by decide) ?_
    rw [nxt_eq hq]
    refine q_iload_n hJ dX11_operates_116 (q := 117) rfl rfl ?_
    refine q_callV hJ dX11_operates_117 (q := 120) rfl (M_asks (d + 1) (by omega) 1 (nxt (img 0)) (nI r) I R hFR) imX11_asks ln_X11_86 (by first | exact ka317 | exact ka318 | exact ka319 | exact ka320 | exact ka321 | exact ka322) (by decide) rfl rfl rfl rfl (Nat.le_of_ble_eq_true rfl) (by decide) (by decide) rfl rfl (fun rv gv Iv Rv hv => ?_)
    obtain ⟨rfl, rfl, rfl, rfl⟩ := hv
    refine q_aload_n hJ dX11_operates_120 (q := 121) rfl rfl (by first | rfl | exact isR_rr _) ?_
    refine q_iload_n hJ dX11_operates_121 (q := 122) rfl rfl ?_
    refine q_iload hJ dX11_operates_122 (q := 124) rfl rfl ?_
    refine q_aload_n hJ dX11_operates_124 (q := 125) rfl rfl (by first | rfl | exact isR_rr _) ?_
    refine q_getR hJ dX11_operates_125 (q := 128) rfl fl_X11_7 rfl (by first | exact ka317 | exact ka318 | exact ka319 | exact ka320 | exact ka321 | exact ka322) (by assumption) rfl ?_
    refine q_iload_n hJ dX11_operates_128 (q := 129) rfl rfl ?_
    refine q_iload_n hJ dX11_operates_129 (q := 130) rfl rfl ?_
    refine q_callS hJ dX11_operates_130 (q := 133) rfl (M_ruleAt p r _ R) imX11_ruleAt ln_X11_40 rfl rfl rfl (Nat.le_of_ble_eq_true rfl) (by decide) (by decide) rfl rfl (fun rv gv Iv Rv hv => ?_)
    obtain ⟨rfl, rfl, rfl, rfl⟩ := hv
    refine q_iconst hJ (v := 4) dX11_operates_133 (q := 134) rfl (by decide) ?_
    refine q_iadd hJ dX11_operates_134 (q := 135) rfl ?_
    refine q_iald hJ dX11_operates_135 (q := 136) rfl (by first | exact ka317 | exact ka318 | exact ka319 | exact ka320 | exact ka321 | exact ka322) (ixE (j := p + 82 + 12 * r + 4) (by ((try simp only [nIl_add, nI_mul, nIl_0, nIl_1, nIl_2, nIl_3, nIl_4, nIl_5, nIl_6, nIl_7, nIl_8, nIl_9, nIl_10, nIl_11, nIl_12, nIl_20, nIl_60, nIl_72, nIl_80, nIl_81, nIl_82, nIl_99, nIl_100, nIl_226, nIl_227, nIl_228, nIl_229, nIl_230, nIl_231, nIl_232, nIl_233, nIl_413, nIl_1239, nIl_10000]) <;> first | done | rfl | exact congrArg nI (by omega))) (by omega) (by decide)) (show _ = nI a by rw [up2_i (by omega), up2_i (by omega), up2_i (by omega)]; exact (hU.2.2 r hr 4 (by decide)).trans hA) ?_
    refine q_iload hJ dX11_operates_136 (q := 138) rfl rfl ?_
    refine q_callV hJ dX11_operates_138 (q := 141) rfl (M_begins p (d + 1) a hp (by omega) (by omega) ha 1 v (nI r) (fun s => (up2 (up2 (up2 I 322 (8 * (d + 1) + 0) (1)) 322 (8 * (d + 1) + 1) ((nxt (img 0)))) 322 (8 * (d + 1) + 7) (nI r)) 322 (8 * (d + 1) + 1 + s)) X _ R hFR (hX.of (fun k _ _ => by rw [up2_i (by omega), up2_i (by omega), up2_i (by omega)]) (fun k _ _ => by rw [up2_i (by omega), up2_i (by omega), up2_i (by omega)])) hx100 (by decide) (by rw [up2_i (by omega), up2_i (by omega), up2_self]) (fun s hs => rfl) (up2_self _ _ _ _)) imX11_begins ln_X11_90 (by first | exact ka317 | exact ka318 | exact ka319 | exact ka320 | exact ka321 | exact ka322) (by decide) rfl rfl rfl rfl (Nat.le_of_ble_eq_true rfl) (by decide) (by decide) rfl rfl (fun rv gv Iv Rv hv => ?_)
    obtain ⟨x, hx, rfl⟩ := BgPo.val hv
    refine q_iret hM dX11_operates_141 rfl (nz rfl hx) ?_
    refine OpsPo.of ?_ ?_ ?_ ?_ hv
    · have e0 : (up2 (up2 (up2 I 322 (8 * (d + 1) + 0) (1)) 322 (8 * (d + 1) + 1) ((nxt (img 0)))) 322 (8 * (d + 1) + 7) (nI r)) 322 (8 * (d + 1) + 1 + 0) = (nxt (img 0)) := by rw [up2_i (by omega), Nat.add_zero, up2_self]
      refine (congrArg (fun z => prUp (xA X) z (nI a) v) e0).trans ?_
      show prUp (xA X) (nxt (img 0)) (nI a) v = _
      rw [prepA, hK, if_neg (by decide), if_pos rfl, hvv, hA]
    · rw [hK]; rfl
    · exact ((((Kp.rf p I).u322 _ _).u322 _ _).u322 _ _)
    · intro i hi; rw [up2_i (by omega), up2_i (by omega), up2_i (by omega)]
  · refine q_iload_n hJ dX11_operates_0 (q := 1) rfl rfl ?_
    refine q_iconst hJ (v := 1) dX11_operates_1 (q := 2) rfl (by decide) ?_
    refine q_iadd hJ dX11_operates_2 (q := 3) rfl ?_
    rw [nI_1 d]
    refine q_istore hJ dX11_operates_3 (q := 5) rfl (by decide) ?_
    refine q_aload_n hJ dX11_operates_5 (q := 6) rfl rfl (by first | rfl | exact isR_rr _) ?_
    refine q_getR hJ dX11_operates_6 (q := 9) rfl fl_X11_7 rfl (by first | exact ka317 | exact ka318 | exact ka319 | exact ka320 | exact ka321 | exact ka322) (by assumption) rfl ?_
    refine q_iload_n hJ dX11_operates_9 (q := 10) rfl rfl ?_
    refine q_iload_n hJ dX11_operates_10 (q := 11) rfl rfl ?_
    refine q_callS hJ dX11_operates_11 (q := 14) rfl (M_ruleAt p r I R) imX11_ruleAt ln_X11_40 rfl rfl rfl (Nat.le_of_ble_eq_true rfl) (by decide) (by decide) rfl rfl (fun rv gv Iv Rv hv => ?_)
    obtain ⟨rfl, rfl, rfl, rfl⟩ := hv
    refine q_iconst hJ (v := 3) dX11_operates_14 (q := 15) rfl (by decide) ?_
    refine q_iadd hJ dX11_operates_15 (q := 16) rfl ?_
    refine q_iald hJ dX11_operates_16 (q := 17) rfl (by first | exact ka317 | exact ka318 | exact ka319 | exact ka320 | exact ka321 | exact ka322) (ixE (j := p + 82 + 12 * r + 3) (by ((try simp only [nIl_add, nI_mul, nIl_0, nIl_1, nIl_2, nIl_3, nIl_4, nIl_5, nIl_6, nIl_7, nIl_8, nIl_9, nIl_10, nIl_11, nIl_12, nIl_20, nIl_60, nIl_72, nIl_80, nIl_81, nIl_82, nIl_99, nIl_100, nIl_226, nIl_227, nIl_228, nIl_229, nIl_230, nIl_231, nIl_232, nIl_233, nIl_413, nIl_1239, nIl_10000]) <;> first | done | rfl | exact congrArg nI (by omega))) (by omega) (by decide)) (show _ = 5 from (hU.2.2 r hr 3 (by decide)).trans hK) ?_
    refine q_lsw hJ (off := 125) (tgt := 142) dX11_operates_17 (by decide) (by decide) (by decide) ?_
    refine q_aload_n hJ dX11_operates_142 (q := 143) rfl rfl (by first | rfl | exact isR_rr _) ?_
    refine q_iload hJ dX11_operates_143 (q := 145) rfl rfl ?_
    refine q_iconst hJ (v := 2) dX11_operates_145 (q := 146) rfl (by decide) ?_
    refine q_iload hJ dX11_operates_146 (q := 148) rfl rfl ?_
    refine q_iload_n hJ dX11_operates_148 (q := 149) rfl rfl ?_
    refine q_callV hJ dX11_operates_149 (q := 152) rfl (M_asks (d + 1) (by omega) 2 v (nI r) I R hFR) imX11_asks ln_X11_86 (by first | exact ka317 | exact ka318 | exact ka319 | exact ka320 | exact ka321 | exact ka322) (by decide) rfl rfl rfl rfl (Nat.le_of_ble_eq_true rfl) (by decide) (by decide) rfl rfl (fun rv gv Iv Rv hv => ?_)
    obtain ⟨rfl, rfl, rfl, rfl⟩ := hv
    refine q_aload_n hJ dX11_operates_152 (q := 153) rfl rfl (by first | rfl | exact isR_rr _) ?_
    refine q_iload_n hJ dX11_operates_153 (q := 154) rfl rfl ?_
    refine q_iload hJ dX11_operates_154 (q := 156) rfl rfl ?_
    refine q_iconst hJ (v := 0) dX11_operates_156 (q := 157) rfl (by decide) ?_
    refine q_iconst hJ (v := 0) dX11_operates_157 (q := 158) rfl (by decide) ?_
    refine q_callV hJ dX11_operates_158 (q := 161) rfl (M_begins p (d + 1) 0 hp (by omega) (by omega) (by decide) 2 0 (nI r) (fun s => (up2 (up2 (up2 I 322 (8 * (d + 1) + 0) (2)) 322 (8 * (d + 1) + 1) (v)) 322 (8 * (d + 1) + 7) (nI r)) 322 (8 * (d + 1) + 1 + s)) X _ R hFR (hX.of (fun k _ _ => by rw [up2_i (by omega), up2_i (by omega), up2_i (by omega)]) (fun k _ _ => by rw [up2_i (by omega), up2_i (by omega), up2_i (by omega)])) hx100 (by decide) (by rw [up2_i (by omega), up2_i (by omega), up2_self]) (fun s hs => rfl) (up2_self _ _ _ _)) imX11_begins ln_X11_90 (by first | exact ka317 | exact ka318 | exact ka319 | exact ka320 | exact ka321 | exact ka322) (by decide) rfl rfl rfl rfl (Nat.le_of_ble_eq_true rfl) (by decide) (by decide) rfl rfl (fun rv gv Iv Rv hv => ?_)
    obtain ⟨x, hx, rfl⟩ := BgPo.val hv
    refine q_iret hM dX11_operates_161 rfl (nz rfl hx) ?_
    refine OpsPo.of ?_ ?_ ?_ ?_ hv
    · have e0 : (up2 (up2 (up2 I 322 (8 * (d + 1) + 0) (2)) 322 (8 * (d + 1) + 1) (v)) 322 (8 * (d + 1) + 7) (nI r)) 322 (8 * (d + 1) + 1 + 0) = v := by rw [up2_i (by omega), Nat.add_zero, up2_self]
      refine (congrArg (prDel (xA X)) e0).trans ?_
      rw [prepA, hK, if_neg (by decide), if_neg (by decide), hvv]
    · rw [hK]; rfl
    · exact ((((Kp.rf p I).u322 _ _).u322 _ _).u322 _ _)
    · intro i hi; rw [up2_i (by omega), up2_i (by omega), up2_i (by omega)]

