/-! THE MODEL: the simulation -/
abbrev prd (U : Nat → Nat → Int32) (od : Nat → Nat) (ev mo : Int32) (t : Nat) : Prop := U (od t) 0 = ev ∧ U (od t) 1 = mo
theorem prd_stb {X X' : XS} (h : Stb X X') (od : Nat → Nat) (ev mo : Int32) (n : Nat) : cnP (prd (aU (xA X')) od ev mo) n = cnP (prd (aU (xA X)) od ev mo) n := cnP_congr fun t _ => by
  show (_ = ev ∧ _ = mo) ↔ (_ = ev ∧ _ = mo)
  rw [h.1 _ 0 (by decide), h.1 _ 1 (by decide)]
theorem A3Po.val {p d r : Nat} {img : Nat → Int32} {X X1 : XS} {I : MI} {R : MR} {v : Option Value} {g' : Geo} {I' : MI} {R' : MR} (h : A3Po p d r img X X1 I R v g' I' R') : ∃ y, v = some (.int y) := by
  obtain ⟨_, _, _, _, h5⟩ := h
  rcases h5 with ⟨_, h, _⟩ | ⟨_, _, ⟨_, h, _⟩ | ⟨_, _, ⟨_, h, _⟩ | ⟨_, h, _⟩⟩⟩ <;> exact ⟨_, h⟩
set_option maxHeartbeats 1000000 in
theorem fld_sim {J : JT} (hJ : Ok mX11_runs (rmD 7 0 0) J) {p d : Nat} {y2 y3 : Int32} {R : MR} (hp : p ≤ 413) (hFR : FR R) {sub : SubT} {cs : List Nat} (hsub : SubM J p y2 y3 R d cs sub) (h1d : 1 ≤ d) (hd : d < 9) (ev mo ca : Int32) (od : Nat → Nat) : ∀ (kk j : Nat) (img : Nat → Int32) (X : XS) (I : MI) (k B : Nat), j + kk = aM (xA X) → od = odA (xA X) → EM I p X → xR X = 0 → xO X ≤ 100 → FrP I d ev img mo (nI (cnP (prd (aU (xA X)) od ev mo) j)) ca → (∃ q, q < 100 ∧ img 0 = nI q) → InvM (aM (xA X)) d cs I → (∀ G, aS (xA X) 0 = nI G → d ≤ G) → k + kk + B ≤ 26 * xO X → FldC J p y2 y3 R I d ev mo ca (cnP (prd (aU (xA X)) od ev mo) (aM (xA X))) B (fldA sub d cs ev mo od j kk img X) → Hd J p y2 y3 R d k I := by
  intro kk
  induction kk with
  | zero =>
    intro j img X I k B hj hod hX hR0 hO hfr hq hinv hG hb hC
    have ej : j = aM (xA X) := by omega
    rw [ej] at hfr
    exact hC.1 rfl I k hX (Kp.rf p I) hfr (fun _ _ => rfl) hR0 (by show k + B ≤ 26 * xO X; omega)
  | succ kk ih =>
    intro j img X I k B hj hod hX hR0 hO hfr hq hinv hG hb hC
    have hm12 : aM (xA X) ≤ 12 := hX.1.2.1.2.1
    have es : cnP (prd (aU (xA X)) od ev mo) (j + 1) = cnP (prd (aU (xA X)) od ev mo) j + (if prd (aU (xA X)) od ev mo j then 1 else 0) := rfl
    by_cases hpr : prd (aU (xA X)) od ev mo j
    · rw [if_pos hpr] at es
      obtain ⟨r, er⟩ : ∃ r, r = od j := ⟨_, rfl⟩
      have hr : r < aM (xA X) := by rw [er, hod]; exact osrt_lt _ _ j (by omega)
      have ho : amF (fun r => aU (xA X) r 0 = ev ∧ aU (xA X) r 1 = mo) (odA (xA X)) (nI (cnP (prd (aU (xA X)) od ev mo) j)) 0 (aM (xA X)) 0 = some r := by
        rw [← hod, amF_from (fun r => aU (xA X) r 0 = ev ∧ aU (xA X) r 1 = mo) od (aM (xA X)) j (cnP (prd (aU (xA X)) od ev mo) j) (by omega) hm12 rfl, show aM (xA X) - j = kk + 1 by omega]
        unfold amF
        rw [if_pos hpr, if_pos rfl, er]
      have next : ∀ (img' : Nat → Int32) (X' : XS) (I' : MI) (k' : Nat), Stb X X' → EM I' p X' → xR X' = 0 → xO X' ≤ 100 → Kp p I I' → (∀ i, i < 8 * d → I' 322 i = I 322 i) → FrP I' d ev img' mo (nI (cnP (prd (aU (xA X)) od ev mo) j) + 1) ca → img' 0 = img 0 → k' + kk + B ≤ 26 * xO X' → FldC J p y2 y3 R I d ev mo ca (cnP (prd (aU (xA X)) od ev mo) (aM (xA X))) B (fldA sub d cs ev mo od (j + 1) kk img' X') → Hd J p y2 y3 R d k' I' := by
        intro img' X' I' k' st hX' hR' hO' hk' hl' hfr' hi' hb' hC'
        refine ih (j + 1) img' X' I' k' B (by rw [st.2.1]; omega) (by rw [odA_stb st]; exact hod) hX' hR' hO' ?_ (by rw [hi']; exact hq) ?_ (by rw [st.2.2]; exact hG) hb' ?_
        · rw [prd_stb st, es, ← nI_1]; exact hfr'
        · rw [st.2.1]; exact hinv.keep hl' (hfr'.2.2.2.2.trans hfr.2.2.2.2.symm)
        · rw [prd_stb st, st.2.1]; exact hC'.shift hk' hl'
      by_cases hf : aU (xA X) r 10 = 1 ∧ ¬ (aS (xA X) 1 = 1 ∧ r ∈ cs) ∧ cmpF (aU (xA X) r 8) (rowF img (aU (xA X) r 7)) (aU (xA X) r 9) = 1
      · have hh : hitA X cs ev mo (od j) img = true := decide_eq_true ⟨by rw [← er, hf.1]; decide, hpr, by rw [← er]; exact hf.2.1, by rw [← er]; exact hf.2.2⟩
        have eF : fldA sub d cs ev mo od j (kk + 1) img X = if (fireA sub d r img X).1 = true then fldA sub d cs ev mo od (j + 1) kk (fireA sub d r img X).2.1 (fireA sub d r img X).2.2 else fireA sub d r img X := by
          rw [er]; exact if_pos hh
        rw [eF] at hC
        have hX1 : EM (up2 I 322 (8 * d + 6) (nI (cnP (prd (aU (xA X)) od ev mo) j) + 1)) p X := hX.of (fun k _ _ => by rw [up2_i (by omega)]) (fun k _ _ => by rw [up2_i (by omega)])
        have hi1 : ∀ t, t < 4 → up2 I 322 (8 * d + 6) (nI (cnP (prd (aU (xA X)) od ev mo) j) + 1) 322 (8 * d + 1 + t) = img t := fun t ht => by rw [up2_i (by omega)]; exact hfr.2.1 t ht
        have hK1 : ∀ {I' : MI}, Kp p (up2 I 322 (8 * d + 6) (nI (cnP (prd (aU (xA X)) od ev mo) j) + 1)) I' → Kp p I I' := fun h => ((Kp.rf p I).u322 _ _).tr h
        have hL1 : ∀ {I' : MI}, (∀ i, i < 8 * d → I' 322 i = up2 I 322 (8 * d + 6) (nI (cnP (prd (aU (xA X)) od ev mo) j) + 1) 322 i) → ∀ i, i < 8 * d → I' 322 i = I 322 i := fun h i hi => by rw [h i hi, up2_i (by omega)]
        have st1 := cnt_stb d r img X
        have step0 : Sp 4 0 0 mX11_acts [.ref 317, .int (nI p), .int (nI r), .int (nI d)] g0 (up2 I 322 (8 * d + 6) (nI (cnP (prd (aU (xA X)) od ev mo) j) + 1)) R (A0Po p d r img X (up2 I 322 (8 * d + 6) (nI (cnP (prd (aU (xA X)) od ev mo) j) + 1)) R) → aU (xA X) r 3 = 0 → Hd J p y2 y3 R d k I := by
          intro hS e3
          refine hd_step hJ hFR hX hR0 h1d hd (by omega) (Nat.le_refl 6) (M_goesF p d hp h1d hd ev img _ ca X I R hFR hX mo r cs hr hinv hfr ho hf _ (by decide) hS (fun h => ⟨_, h.1⟩)) (fun v g' I' R' hv => ?_)
          obtain ⟨rfl, rfl, rfl, hk2, hX2, himg, hl2⟩ := hv
          have eG : fireA sub d r img X = (true, chgF img (aU (xA X) r 4) (valF (aU (xA X) r) img), cntA d r img X) := if_pos e3
          rw [eG, if_pos rfl] at hC
          refine ⟨d, rfl, rfl, rfl, next _ _ I' (k + 1) st1 hX2 hR0 hO (hK1 hk2) (hL1 fun i hi => hl2 i (by omega)) ⟨?_, himg, ?_, ?_, ?_⟩ (chgF_0 _ _ _) (by show k + 1 + kk + B ≤ 26 * xO X; omega) hC⟩
          · rw [hl2 _ (by omega), up2_i (by omega)]; exact hfr.1
          · rw [hl2 _ (by omega), up2_i (by omega)]; exact hfr.2.2.1
          · rw [hl2 _ (by omega), up2_self]
          · rw [hl2 _ (by omega), up2_i (by omega)]; exact hfr.2.2.2.2
        have step1 : aU (xA X) r 3 = 1 → Hd J p y2 y3 R d k I := by
          intro e3
          refine hd_step hJ hFR hX hR0 h1d hd (by omega) (Nat.le_refl 6) (M_goesF p d hp h1d hd ev img _ ca X I R hFR hX mo r cs hr hinv hfr ho hf _ (by decide) (M_act1 p d r hp h1d hd img X _ R hFR hX1 hr hi1 e3) (fun h => ⟨_, h.1⟩)) (fun v g' I' R' hv => ?_)
          obtain ⟨rfl, rfl, rfl, hk2, hX2, hl2⟩ := hv
          have eG : fireA sub d r img X = (false, img, refA (cntA d r img X) 1 (nI r)) := (if_neg (by rw [e3]; decide)).trans (if_pos e3)
          rw [eG, if_neg (by simp)] at hC
          exact ⟨d, rfl, rfl, rfl, hC.2.2 rfl I' (k + 1) d hX2 (hK1 hk2) (by show ¬ (1 : Int32) = 0; decide) (by omega) (by omega)⟩
        have step2 : aU (xA X) r 3 = 2 → Hd J p y2 y3 R d k I := by
          intro e3
          refine hd_step hJ hFR hX hR0 h1d hd (by omega) (Nat.le_refl 6) (M_goesF p d hp h1d hd ev img _ ca X I R hFR hX mo r cs hr hinv hfr ho hf _ (by decide) (M_act2 p d r hp h1d hd img X _ R hFR hX1 hr hi1 e3) (fun h => ⟨_, h.1⟩)) (fun v g' I' R' hv => ?_)
          obtain ⟨rfl, rfl, rfl, hk2, hX2, hl2⟩ := hv
          have eG : fireA sub d r img X = (false, img, cntA d r img X) := (if_neg (by rw [e3]; decide)).trans ((if_neg (by rw [e3]; decide)).trans (if_pos e3))
          rw [eG, if_neg (by simp)] at hC
          exact ⟨d - 1, rfl, rfl, rfl, hC.2.1 rfl I' (k + 1) hX2 (hK1 hk2) (hL1 fun i hi => hl2 i (by omega)) hR0 (by show k + 1 + B ≤ 26 * xO X; omega)⟩
        have step3 : (aU (xA X) r 3 = 3 ∨ aU (xA X) r 3 = 4 ∨ aU (xA X) r 3 = 5) → Hd J p y2 y3 R d k I := by
          intro e3
          refine hd_step hJ hFR hX hR0 h1d hd (by omega) (Nat.le_refl 6) (M_goesF p d hp h1d hd ev img _ ca X I R hFR hX mo r cs hr hinv hfr ho hf _ (by decide) (M_act3 p d r hp h1d hd img X _ R hFR hX1 hr hi1 e3 hO hq hG) (fun h => A3Po.val h)) (fun v g' I' R' hv => ?_)
          obtain ⟨rfl, rfl, hk2, hl2, h5⟩ := hv
          have n0 : ¬ aU (xA X) r 3 = 0 := fun z => by rw [z] at e3; exact absurd e3 (by decide)
          have n1 : ¬ aU (xA X) r 3 = 1 := fun z => by rw [z] at e3; exact absurd e3 (by decide)
          have n2 : ¬ aU (xA X) r 3 = 2 := fun z => by rw [z] at e3; exact absurd e3 (by decide)
          have eG : fireA sub d r img X = (decide (xR (causeA sub d r img (cntA d r img X)) = 0), img, causeA sub d r img (cntA d r img X)) := (if_neg n0).trans ((if_neg n1).trans (if_neg n2))
          have eS : aS (xA (cntA d r img X)) = aS (xA X) := st1.2.2
          rw [eG] at hC
          have bad : ∀ (w : Int32) (Y : XS), causeA sub d r img (cntA d r img X) = Y → xR Y = w → ¬ w = 0 → FldC J p y2 y3 R I d ev mo ca (cnP (prd (aU (xA X)) od ev mo) (aM (xA X))) B (false, img, Y) := fun w Y e1 e2 e4 => by
            rw [e1, e2, decide_eq_false e4, if_neg (by simp)] at hC; exact hC
          have good : ∀ (Y : XS), causeA sub d r img (cntA d r img X) = Y → xR Y = 0 → FldC J p y2 y3 R I d ev mo ca (cnP (prd (aU (xA X)) od ev mo) (aM (xA X))) B (fldA sub d cs ev mo od (j + 1) kk img Y) := fun Y e1 e2 => by
            rw [e1, e2, decide_eq_true rfl, if_pos rfl] at hC; exact hC
          have frm : ∀ {I'' : MI}, (∀ i, i < 8 * d + 8 → I'' 322 i = I' 322 i) → FrP I'' d ev img mo (nI (cnP (prd (aU (xA X)) od ev mo) j) + 1) ca := fun {I''} h => ⟨by rw [h _ (by omega), hl2 _ (by omega), up2_i (by omega)]; exact hfr.1, fun t ht => by rw [h _ (by omega), hl2 _ (by omega), up2_i (by omega)]; exact hfr.2.1 t ht, by rw [h _ (by omega), hl2 _ (by omega), up2_i (by omega)]; exact hfr.2.2.1, by rw [h _ (by omega), hl2 _ (by omega), up2_self], by rw [h _ (by omega), hl2 _ (by omega), up2_i (by omega)]; exact hfr.2.2.2.2⟩
          rcases h5 with ⟨e1, rfl, hX2⟩ | ⟨e1, hd8, h6⟩
          · have eC : causeA sub d r img (cntA d r img X) = refA (cntA d r img X) 2 (nI r) := by
              unfold causeA
              split
              · rfl
              · rw [if_pos]
                rw [eS, e1]; exact Int32.le_refl _
            exact ⟨d, rfl, rfl, rfl, (bad 2 _ eC rfl (by decide)).2.2 rfl I' (k + 1) d hX2 (hK1 hk2) (by show ¬ (2 : Int32) = 0; decide) (by omega) (by omega)⟩
          · obtain ⟨G, g1, g8, hGG⟩ := hX.2.1.2.2
            have hdG : d < G := by
              have := hG G hGG
              rcases Nat.lt_or_ge d G with z | z
              · exact z
              · exact absurd (by rw [hGG, show G = d by omega]) e1
            have nle : ¬ aS (xA (cntA d r img X)) 0 ≤ nI d := by
              rw [eS, hGG]; exact nI_ge hdG (by omega)
            rcases hsub with ⟨_, z⟩ | ⟨f, sub2, rfl, _, hfe, hfS, hsim⟩
            · omega
            rcases h6 with ⟨e2, rfl, hX2⟩ | ⟨img2, e2, h7⟩
            · have eC : causeA (some f) d r img (cntA d r img X) = cntA d r img X := by
                show (if aS (xA (cntA d r img X)) 0 ≤ nI d then _ else match prepA (xA (cntA d r img X)) (aU (xA (cntA d r img X)) r) img with | none => cntA d r img X | some img2 => f (aU (xA (cntA d r img X)) r 3 - 3) r img2 (cntA d r img X)) = _
                rw [if_neg nle, e2]
              exact ⟨d, rfl, rfl, rfl, next img _ I' (k + 1) st1 hX2 hR0 hO (hK1 hk2) (hL1 fun i hi => hl2 i (by omega)) (frm fun _ _ => rfl) rfl (by show k + 1 + kk + B ≤ 26 * xO X; omega) (good _ eC hR0)⟩
            · have eC : causeA (some f) d r img (cntA d r img X) = f (aU (xA (cntA d r img X)) r 3 - 3) r img2 (cntA d r img X) := by
                show (if aS (xA (cntA d r img X)) 0 ≤ nI d then _ else match prepA (xA (cntA d r img X)) (aU (xA (cntA d r img X)) r) img with | none => cntA d r img X | some img2 => f (aU (xA (cntA d r img X)) r 3 - 3) r img2 (cntA d r img X)) = _
                rw [if_neg nle, e2]
              rw [hfe] at eC
              rcases h7 with ⟨e4, rfl, hX2⟩ | ⟨e4, rfl, hX2, hfr2⟩
              · rw [if_pos e4] at eC
                exact ⟨d, rfl, rfl, rfl, (bad 3 _ eC rfl (by decide)).2.2 rfl I' (k + 1) d hX2 (hK1 hk2) (by show ¬ (3 : Int32) = 0; decide) (by omega) (by omega)⟩
              · rw [if_neg (by omega)] at eC
                have hok1 : okM (xA (cntA d r img X)) := hX2.2.1
                have e3' : aU (xA (cntA d r img X)) r 3 = 3 ∨ aU (xA (cntA d r img X)) r 3 = 4 ∨ aU (xA (cntA d r img X)) r 3 = 5 := by rw [st1.1 r 3 (by decide)]; exact e3
                obtain ⟨hcan, hq2, hev2⟩ := prep_can hok1 e3' (hok1.2.1 r (by rw [st1.2.1]; exact hr)).2.1.1 e2
                have hfS1 := hfS f rfl (aU (xA (cntA d r img X)) r 3 - 3) r img2 (cntA d r img X)
                rw [hfe, if_neg (by omega)] at hfS1
                refine ⟨d + 1, rfl, rfl, rfl, hsim r _ img2 (nI r) (begA (d + 1) (cntA d r img X)) I' (k + 1) (kk + B) hX2 hR0 (by show xO X + 1 ≤ 100; have : xO X < 100 := e4; omega) hfr2 hq2 hcan hev2 ?_ ?_ (by show k + 1 + 26 + (kk + B) ≤ 26 * (xO X + 1); omega) ⟨fun I'' k'' a b c e g => ?_, fun I'' k'' d'' a b c e g => ?_⟩⟩
                · show InvM (aM (xA (cntA d r img X))) _ _ _
                  rw [st1.2.1]
                  exact hinv.push hm12 hr h1d (fun t ht => by rw [hl2 _ (by omega), up2_i (by omega)]) hfr2.2.2.2.2
                · intro G' hG'
                  have : aS (xA X) 0 = nI G' := by rw [← eS]; exact hG'
                  rcases Nat.lt_or_ge d G' with z | z
                  · exact z
                  · have := hG G' this
                    exact absurd (by rw [‹aS (xA X) 0 = nI G'›, show G' = d by omega]) e1
                · exact next img _ I'' k'' (st1.trans hfS1.1) a e (hfS1.2 hO) (hK1 (hk2.tr b)) (hL1 fun i hi => (c i (by omega)).trans (hl2 i (by omega))) (frm fun i hi => c i (by omega)) rfl (by omega) (good _ eC e)
                · exact (bad _ _ eC rfl c).2.2 rfl I'' k'' d'' a (hK1 (hk2.tr b)) c e g
        rcases kind_cases (hX.2.1.2.1 r hr) with ⟨_, e | e | e⟩ | ⟨_, e | e⟩
        · exact step0 (M_act0 p d r hp h1d hd img X _ R hFR hX1 hr hi1 e) e
        · exact step1 e
        · exact step2 e
        · exact step1 e
        · exact step3 e
      · have hh : ¬ hitA X cs ev mo (od j) img = true := fun z => by
          unfold hitA at z
          have z2 := of_decide_eq_true z
          rw [← er] at z2
          refine hf ⟨?_, z2.2.2.1, z2.2.2.2⟩
          rcases (hX.2.1.2.1 r hr).2.2 with q | q
          · exact absurd q z2.1
          · exact q
        have eF : fldA sub d cs ev mo od j (kk + 1) img X = fldA sub d cs ev mo od (j + 1) kk img X := if_neg hh
        rw [eF] at hC
        refine hd_step hJ hFR hX hR0 h1d hd (by omega) (by decide) (M_goesS p d hp h1d hd ev img _ ca X I R hFR hX mo r cs hr hinv hfr ho hf) (fun v g' I' R' hv => ?_)
        obtain ⟨rfl, rfl, rfl, hk1, hX1, hfr1, hl1⟩ := hv
        exact ⟨d, rfl, rfl, rfl, next img X I' (k + 1) (Stb.rf X) hX1 hR0 hO hk1 hl1 hfr1 rfl (by omega) hC⟩
    · rw [if_neg hpr] at es
      have hh : ¬ hitA X cs ev mo (od j) img = true := fun z => by
        unfold hitA at z
        exact hpr (of_decide_eq_true z).2.1
      have eF : fldA sub d cs ev mo od j (kk + 1) img X = fldA sub d cs ev mo od (j + 1) kk img X := if_neg hh
      rw [eF] at hC
      exact ih (j + 1) img X I k B (by omega) hod hX hR0 hO (by rw [es]; exact hfr) hq hinv hG (by omega) hC
