/-! THE RECURSION: cause, fire, fireRules, operate -/
def SubOK (d e : Nat) (sub : SubT) (cs : List Nat) (Q : Nat → Nat) : Prop := (sub = none ∧ d = 8) ∨ ∃ f, sub = some f ∧ d < 8 ∧ ∀ (ev : Int32) (r : Nat) (img : Nat → Int32) (X : XS) (I : MI) (R : MR), FR R → EX Q I R X → xO X ≤ 100 → Lv I → FlG I (aS (xA X) 1) (r :: cs) → (∀ t, t < 4 → I (60 - 2 * d) t = img t) →
  Sp e 0 0 mX0_operate [.ref 1, .int ev, .ref (59 - 2 * d), .int (nI r)] g0 I R (OpPo Q I R (60 - 2 * d) (aS (xA X) 1) (f ev r img X))
theorem lev_fr {R : MR} (h : FR R) {d : Nat} (h1 : 1 ≤ d) (h8 : d ≤ 8) : R (61 - 2 * d) 2 = some (62 - 2 * d) := (h.2.2.2.2.1 d h1 h8).1
theorem lev_dn {R : MR} (h : FR R) {d : Nat} (h1 : 1 ≤ d) (h8 : d < 8) : R (61 - 2 * d) 1 = some (59 - 2 * d) := by
  have := (h.2.2.2.2.1 d h1 (by omega)).2
  rw [if_neg (by omega)] at this
  exact this
theorem lev_d8 {R : MR} (h : FR R) : R (61 - 2 * 8) 1 = none := by
  have := (h.2.2.2.2.1 8 (by omega) (by omega)).2
  rw [if_pos rfl] at this
  exact this
theorem lev_fr2 {R : MR} (h : FR R) {d : Nat} (h8 : d < 8) : R (59 - 2 * d) 2 = some (60 - 2 * d) := by
  have := (h.2.2.2.2.1 (d + 1) (by omega) (by omega)).1
  rw [show 61 - 2 * (d + 1) = 59 - 2 * d by omega, show 62 - 2 * (d + 1) = 60 - 2 * d by omega] at this
  exact this
theorem kaL2 {d : Nat} (h8 : d < 8) : KA g0 (59 - 2 * d) 3 0 := by
  have := kaL (d := d + 1) (by omega) (by omega)
  rw [show 61 - 2 * (d + 1) = 59 - 2 * d by omega] at this
  exact this
theorem kaI2 {d : Nat} (h8 : d < 8) : KA g0 (60 - 2 * d) 4 0 := by
  have := kaI (d := d + 1) (by omega) (by omega)
  rw [show 62 - 2 * (d + 1) = 60 - 2 * d by omega] at this
  exact this
set_option maxRecDepth 100000 in
set_option maxHeartbeats 400000 in
theorem S_cause (d e : Nat) (sub : SubT) (cs : List Nat) (Q : Nat → Nat) (r : Nat) (img : Nat → Int32) (X : XS) (I : MI) (R : MR) (h1 : 1 ≤ d) (h8 : d ≤ 8) (he : 2 ≤ e) (hsub : SubOK d e sub cs Q) (hFR : FR R) (hE : EX Q I R X) (hO : xO X ≤ 100) (hL : Lv I) (hG : FlG I (aS (xA X) 1) cs) (hnr : aS (xA X) 1 = 1 → ¬ r ∈ cs) (hr : r < aM (xA X)) (himg : ∀ t, t < 4 → I (62 - 2 * d) t = img t) : Sp (e + 1) 0 0 mX0_cause [.ref 1, .int (nI r), .ref (Q r), .ref (61 - 2 * d)] g0 I R (OpPo Q I R (60 - 2 * d) (aS (xA X) 1) (causeA sub d r img X)) := by
  have hm := hE.2.2.1.1.2.1
  have hr12 : r < 12 := Nat.lt_of_lt_of_le hr hm
  have hq := Q_in hE.2.2.1 hr12
  have hkq : KA g0 (Q r) 5 0 := ka_rul isB2 (by omega) (by omega)
  have hk1 := ka1
  have hk2 := ka_sta isB2
  have hkl := kaL h1 h8
  have hki := kaI h1 h8
  have he0 := hFR.2.2.1.1
  have hli := lev_fr hFR h1 h8
  refine Sp.on (by decide +kernel) rfl rfl (fun J hM => ?_)
  have hJ := hM.ok
  rcases hsub with ⟨rfl, rfl⟩ | ⟨f, rfl, hd, hS⟩
  · refine q_aload_n hJ dX0_cause_0 (q := 1) rfl rfl (by first | rfl | exact isR_rr _) ?_
    refine q_getR hJ dX0_cause_1 (q := 4) rfl fl_X0_222 rfl hkl (lev_d8 hFR) rfl ?_
    refine q_astore hJ dX0_cause_4 (q := 6) rfl (by decide) (by first | rfl | exact isR_rr _) ?_
    refine q_aload hJ dX0_cause_6 (q := 8) rfl rfl (by first | rfl | exact isR_rr _) ?_
    refine q_nullY hJ (a := 0) (tgt := 25) dX0_cause_8 (by decide) ?_
    refine q_aload_n hJ dX0_cause_25 (q := 26) rfl rfl (by first | rfl | exact isR_rr _) ?_
    refine q_iconst hJ (v := 2) dX0_cause_26 (q := 27) rfl (by decide) ?_
    refine q_iload_n hJ dX0_cause_27 (q := 28) rfl rfl ?_
    refine q_callV hJ dX0_cause_28 (q := 31) rfl (S_refuse 2 (nI r) I R) imX0_refuse ln_X0_159 hk1 (by decide) rfl rfl rfl rfl (Nat.le_of_ble_eq_true rfl) (rmOK (by omega) (by decide)) ⟨Nat.le_refl _, Nat.le_refl _⟩ rfl rfl (fun rv gv Iv Rv hv => ?_)
    obtain ⟨rfl, rfl, rfl, rfl⟩ := hv
    refine q_vret hM dX0_cause_31 rfl ?_
    have ec : causeA none 8 r img X = refA X 2 (nI r) := rfl
    exact ⟨rfl, rfl, by rw [ec]; exact hE.ref 2 _, ((FrE.rf _ I).up (Or.inl (by omega))).up (Or.inl (by omega)), Out.rf _ _ _, hFR, FlP.same (by rw [up2_other _ _ _ _ (by decide), up2_other _ _ _ _ (by decide)])⟩
  · have hki2 := kaI2 hd
    have hkl2 := kaL2 hd
    refine q_aload_n hJ dX0_cause_0 (q := 1) rfl rfl (by first | rfl | exact isR_rr _) ?_
    refine q_getR hJ dX0_cause_1 (q := 4) rfl fl_X0_222 rfl hkl (lev_dn hFR h1 hd) rfl ?_
    refine q_astore hJ dX0_cause_4 (q := 6) rfl (by decide) (by first | rfl | exact isR_rr _) ?_
    refine q_aload hJ dX0_cause_6 (q := 8) rfl rfl (by first | rfl | exact isR_rr _) ?_
    refine q_nullN hJ dX0_cause_8 (q := 11) rfl ?_
    refine q_aload_n hJ dX0_cause_11 (q := 12) rfl rfl (by first | rfl | exact isR_rr _) ?_
    refine q_getI hJ dX0_cause_12 (q := 15) rfl fl_X0_162 rfl hkl (hL d h1 h8) ?_
    refine q_aload_n hJ dX0_cause_15 (q := 16) rfl rfl (by first | rfl | exact isR_rr _) ?_
    refine q_getR hJ dX0_cause_16 (q := 19) rfl fl_X0_12 rfl hk1 he0 rfl ?_
    refine q_getI hJ dX0_cause_19 (q := 22) rfl fl_X0_225 rfl hk2 (show _ = aS (xA X) 0 from hE.1 0 (by decide)) ?_
    refine q_icmp_lt hJ (tgt := 32) dX0_cause_22 (q := 25) rfl (by decide) (fun c1 => ?_) (fun c1 => ?_)
    · refine q_aload_n hJ dX0_cause_32 (q := 33) rfl rfl (by first | rfl | exact isR_rr _) ?_
      refine q_aload_n hJ dX0_cause_33 (q := 34) rfl rfl (by first | rfl | exact isR_rr _) ?_
      refine q_aload_n hJ dX0_cause_34 (q := 35) rfl rfl (by first | rfl | exact isR_rr _) ?_
      refine q_getR hJ dX0_cause_35 (q := 38) rfl fl_X0_63 rfl hkl hli rfl ?_
      refine q_aload hJ dX0_cause_38 (q := 40) rfl rfl (by first | rfl | exact isR_rr _) ?_
      refine q_getR hJ dX0_cause_40 (q := 43) rfl fl_X0_63 rfl hkl2 (lev_fr2 hFR hd) rfl ?_
      refine q_callV hJ dX0_cause_43 (q := 46) rfl (S_prepC (xA X) (Q r) (62 - 2 * d) (60 - 2 * d) (aU (xA X) r) img I R hFR hE.2.1 hkq hki hki2 (by omega) (fun f hf => hE.2.2.1.2.1 r hr f hf) himg) imX0_prepareCaused ln_X0_228 hk1 (by decide) rfl rfl rfl rfl (Nat.le_of_ble_eq_true rfl) (rmOK (by omega) (by decide)) ⟨Nat.le_refl _, Nat.le_refl _⟩ rfl rfl (fun rv gv Iv Rv hv => ?_)
      obtain ⟨rfl, rfl, hO1, hc⟩ := hv
      have hE1 : EX Q Iv R X := hE.agr (fun a q1 q2 => hO1 a (by omega)) (Agr.rf _ _ _)
      have hG2 : FlG (up2 Iv 44 r 1) (aS (xA X) 1) (r :: cs) := fun hg r2 hr2 => by
        rw [up2_app]
        by_cases e2 : r2 = r
        · rw [if_pos ⟨rfl, e2⟩, if_pos (by simp [e2])]
        · rw [if_neg (fun z => e2 z.2), hO1 44 (by omega), hG hg r2 hr2]
          simp [e2]
      rcases hc with ⟨ho, rfl⟩ | ⟨img2, ho, rfl, hI2⟩
      · refine q_if_eq hJ (tgt := 74) dX0_cause_46 (q := 49) rfl (by decide) (fun _ => ?_) (fun c9 => absurd rfl c9)
        refine q_vret hM dX0_cause_74 rfl ?_
        have ec : causeA (some f) d r img X = X := by simp only [causeA, if_neg (Int32.not_le.mpr c1), ho]
        exact ⟨rfl, rfl, by rw [ec]; exact hE1, fun a ha => hO1 a (by omega), Out.rf _ _ _, hFR, FlP.same (hO1 44 (by omega))⟩
      · refine q_if_eq hJ (tgt := 74) dX0_cause_46 (q := 49) rfl (by decide) (fun c9 => absurd c9 (by decide)) (fun _ => ?_)
        refine q_aload_n hJ dX0_cause_49 (q := 50) rfl rfl (by first | rfl | exact isR_rr _) ?_
        refine q_iload_n hJ dX0_cause_50 (q := 51) rfl rfl ?_
        refine q_iconst hJ (v := 1) dX0_cause_51 (q := 52) rfl (by decide) ?_
        refine q_callV hJ dX0_cause_52 (q := 55) rfl (S_mark r 1 Iv R hFR hr12 (Or.inr rfl)) imX0_mark ln_X0_232 hk1 (by decide) rfl rfl rfl rfl (Nat.le_of_ble_eq_true rfl) (rmOK (by omega) (by decide)) ⟨Nat.le_refl _, Nat.le_refl _⟩ rfl rfl (fun rv gv Iv Rv hv => ?_)
        obtain ⟨rfl, rfl, rfl, rfl⟩ := hv
        refine q_aload_n hJ dX0_cause_55 (q := 56) rfl rfl (by first | rfl | exact isR_rr _) ?_
        refine q_aload_n hJ dX0_cause_56 (q := 57) rfl rfl (by first | rfl | exact isR_rr _) ?_
        refine q_getI hJ dX0_cause_57 (q := 60) rfl fl_X0_147 rfl hkq (show up2 Iv 44 r 1 (Q r) 3 = aU (xA X) r 3 from by rw [up2_other _ _ _ _ (by omega), hO1 _ (by omega)]; exact hE.2.2.1.2.1 r hr 3 (by decide)) ?_
        refine q_iconst hJ (v := 3) dX0_cause_60 (q := 61) rfl (by decide) ?_
        refine q_isub hJ dX0_cause_61 (q := 62) rfl ?_
        refine q_aload hJ dX0_cause_62 (q := 64) rfl rfl (by first | rfl | exact isR_rr _) ?_
        refine q_iload_n hJ dX0_cause_64 (q := 65) rfl rfl ?_
        refine q_callV hJ dX0_cause_65 (q := 68) rfl (hS (aU (xA X) r 3 - 3) r img2 X _ R hFR (hE1.agr (fun a q1 q2 => up2_other _ _ _ _ (by omega)) (Agr.rf _ _ _)) hO (fun d' q1 q2 => by rw [up2_other _ _ _ _ (by omega), hO1 _ (by omega)]; exact hL d' q1 q2) hG2 (fun t ht => by rw [up2_other _ _ _ _ (by omega)]; exact hI2 t ht)) imX0_operate ln_X0_92 hk1 (by decide) rfl rfl rfl rfl (Nat.le_of_ble_eq_true rfl) (rmOK (by omega) (by decide)) ⟨Nat.le_refl _, Nat.le_refl _⟩ rfl rfl (fun rv gv Iv Rv hv => ?_)
        obtain ⟨rfl, rfl, hE3, hF3, hR3, hFR3, hP3⟩ := hv
        refine q_aload_n hJ dX0_cause_68 (q := 69) rfl rfl (by first | rfl | exact isR_rr _) ?_
        refine q_iload_n hJ dX0_cause_69 (q := 70) rfl rfl ?_
        refine q_iconst hJ (v := 0) dX0_cause_70 (q := 71) rfl (by decide) ?_
        refine q_callV hJ dX0_cause_71 (q := 74) rfl (S_mark r 0 _ _ hFR3 hr12 (Or.inl rfl)) imX0_mark ln_X0_232 hk1 (by decide) rfl rfl rfl rfl (Nat.le_of_ble_eq_true rfl) (rmOK (by omega) (by decide)) ⟨Nat.le_refl _, Nat.le_refl _⟩ rfl rfl (fun rv gv Iv Rv hv => ?_)
        obtain ⟨rfl, rfl, rfl, rfl⟩ := hv
        refine q_vret hM dX0_cause_74 rfl ?_
        have ec : causeA (some f) d r img X = f (aU (xA X) r 3 - 3) r img2 X := by simp only [causeA, if_neg (Int32.not_le.mpr c1), ho]
        rw [← ec] at hE3
        refine ⟨rfl, rfl, hE3.agr (fun a q1 q2 => up2_other _ _ _ _ (by omega)) (Agr.rf _ _ _), fun a ha => ?_, hR3, hFR3, ⟨fun r2 => ?_, fun hg r2 hr2 => ?_⟩⟩
        · rw [up2_other _ _ _ _ (by omega), hF3 a ha, up2_other _ _ _ _ (by omega), hO1 a (by omega)]
        · rw [up2_app]
          by_cases e2 : r2 = r
          · exact Or.inr (if_pos ⟨rfl, e2⟩)
          · rw [if_neg (fun z => e2 z.2)]
            rcases hP3.1 r2 with q | q
            · left; rw [q, up2_app, if_neg (fun z => e2 z.2), hO1 44 (by omega)]
            · exact Or.inr q
        · rw [up2_app]
          by_cases e2 : r2 = r
          · rw [if_pos ⟨rfl, e2⟩, e2, hG hg r hr12, if_neg (hnr hg)]
          · rw [if_neg (fun z => e2 z.2), hP3.2 hg r2 hr2, up2_app, if_neg (fun z => e2 z.2), hO1 44 (by omega)]
    · refine q_aload_n hJ dX0_cause_25 (q := 26) rfl rfl (by first | rfl | exact isR_rr _) ?_
      refine q_iconst hJ (v := 2) dX0_cause_26 (q := 27) rfl (by decide) ?_
      refine q_iload_n hJ dX0_cause_27 (q := 28) rfl rfl ?_
      refine q_callV hJ dX0_cause_28 (q := 31) rfl (S_refuse 2 (nI r) I R) imX0_refuse ln_X0_159 hk1 (by decide) rfl rfl rfl rfl (Nat.le_of_ble_eq_true rfl) (rmOK (by omega) (by decide)) ⟨Nat.le_refl _, Nat.le_refl _⟩ rfl rfl (fun rv gv Iv Rv hv => ?_)
      obtain ⟨rfl, rfl, rfl, rfl⟩ := hv
      refine q_vret hM dX0_cause_31 rfl ?_
      have ec : causeA (some f) d r img X = refA X 2 (nI r) := by simp only [causeA]; exact if_pos (Int32.not_lt.mp c1)
      exact ⟨rfl, rfl, by rw [ec]; exact hE.ref 2 _, ((FrE.rf _ I).up (Or.inl (by omega))).up (Or.inl (by omega)), Out.rf _ _ _, hFR, FlP.same (by rw [up2_other _ _ _ _ (by decide), up2_other _ _ _ _ (by decide)])⟩

def FiPo (Q : Nat → Nat) (I : MI) (R : MR) (d : Nat) (G : Int32) (F : Bool × (Nat → Int32) × XS) : Po := fun r g' I' R' => r = some (.int (if F.1 = true then 1 else 0)) ∧ g0 = g' ∧ EX Q I' R' F.2.2 ∧ (∀ t, t < 4 → I' (62 - 2 * d) t = F.2.1 t) ∧ FrE (62 - 2 * d) I I' ∧ Out R R' 4 5 ∧ FR R' ∧ FlP I I' G
theorem addL_hi (I : MI) (q n : Nat) (hq : q < 44) (v w : Int32) (x y z : Int32) (a : Nat) (ha : 44 ≤ a) : addL (up2 (up2 I 1 4 v) q 11 w) 2 n x y z a = I a := by
  unfold addL
  split
  · rw [up2_other _ _ _ _ (by omega), up2_other _ _ _ _ (by omega), up2_other _ _ _ _ (by omega), up2_other _ _ _ _ (by omega), up2_other _ _ _ _ (by omega), up2_other _ _ _ _ (by omega)]
  · rw [up2_other _ _ _ _ (by omega), up2_other _ _ _ _ (by omega)]
theorem addL_0 (I : MI) (q n : Nat) (hq : 28 ≤ q) (v w : Int32) (x y z : Int32) : addL (up2 (up2 I 1 4 v) q 11 w) 2 n x y z 0 = I 0 := by
  unfold addL
  split
  · rw [up2_other _ _ _ _ (by omega), up2_other _ _ _ _ (by omega), up2_other _ _ _ _ (by omega), up2_other _ _ _ _ (by omega), up2_other _ _ _ _ (by omega), up2_other _ _ _ _ (by omega)]
  · rw [up2_other _ _ _ _ (by omega), up2_other _ _ _ _ (by omega)]
set_option maxRecDepth 100000 in
set_option maxHeartbeats 800000 in
theorem S_fire (d e : Nat) (sub : SubT) (cs : List Nat) (Q : Nat → Nat) (r : Nat) (img : Nat → Int32) (X : XS) (I : MI) (R : MR) (h1 : 1 ≤ d) (h8 : d ≤ 8) (he : 2 ≤ e) (hsub : SubOK d e sub cs Q) (hFR : FR R) (hE : EX Q I R X) (hO : xO X ≤ 100) (hL : Lv I) (hG : FlG I (aS (xA X) 1) cs) (hnr : aS (xA X) 1 = 1 → ¬ r ∈ cs) (hr : r < aM (xA X)) (himg : ∀ t, t < 4 → I (62 - 2 * d) t = img t) : Sp (e + 2) 0 0 mX0_fire [.ref 1, .int (nI r), .ref (Q r), .ref (61 - 2 * d)] g0 I R (FiPo Q I R d (aS (xA X) 1) (fireA sub d r img X)) := by
  have hm := hE.2.2.1.1.2.1
  have hr12 : r < 12 := Nat.lt_of_lt_of_le hr hm
  have hq := Q_in hE.2.2.1 hr12
  have hkq : KA g0 (Q r) 5 0 := ka_rul isB2 (by omega) (by omega)
  have hk1 := ka1
  have hk2 := ka_sta isB2
  have hkl := kaL h1 h8
  have hki := kaI h1 h8
  have he0 := hFR.2.2.1.1
  have hli := lev_fr hFR h1 h8
  refine Sp.on (by decide +kernel) rfl rfl (fun J hM => ?_)
  have hJ := hM.ok
  refine q_aload_n hJ dX0_fire_0 (q := 1) rfl rfl (by first | rfl | exact isR_rr _) ?_
  refine q_dup hJ dX0_fire_1 (q := 2) rfl rfl ?_
  refine q_getI hJ dX0_fire_2 (q := 5) rfl fl_X0_110 rfl hk1 (show _ = xF X from hE.2.2.2.2.2.1) ?_
  refine q_iconst hJ (v := 1) dX0_fire_5 (q := 6) rfl (by decide) ?_
  refine q_iadd hJ dX0_fire_6 (q := 7) rfl ?_
  refine q_putI hJ dX0_fire_7 (q := 10) rfl fl_X0_110 rfl rfl hk1 rfl rfl ?_
  refine q_aload_n hJ dX0_fire_10 (q := 11) rfl rfl (by first | rfl | exact isR_rr _) ?_
  refine q_dup hJ dX0_fire_11 (q := 12) rfl rfl ?_
  refine q_getI hJ dX0_fire_12 (q := 15) rfl fl_X0_213 rfl hkq (show _ = aU (xA X) r 11 from by rw [up2_other _ _ _ _ (by omega)]; exact hE.2.2.1.2.1 r hr 11 (by decide)) ?_
  refine q_iconst hJ (v := 1) dX0_fire_15 (q := 16) rfl (by decide) ?_
  refine q_iadd hJ dX0_fire_16 (q := 17) rfl ?_
  refine q_putI hJ dX0_fire_17 (q := 20) rfl fl_X0_213 rfl rfl hkq rfl rfl ?_
  refine q_aload_n hJ dX0_fire_20 (q := 21) rfl rfl (by first | rfl | exact isR_rr _) ?_
  refine q_getR hJ dX0_fire_21 (q := 24) rfl fl_X0_12 rfl hk1 he0 rfl ?_
  refine q_getR hJ dX0_fire_24 (q := 27) rfl fl_X0_124 rfl hk2 (hFR.1 2 isB2).2.2.1 rfl ?_
  refine q_iload_n hJ dX0_fire_27 (q := 28) rfl rfl ?_
  refine q_aload_n hJ dX0_fire_28 (q := 29) rfl rfl (by first | rfl | exact isR_rr _) ?_
  refine q_getI hJ dX0_fire_29 (q := 32) rfl fl_X0_162 rfl hkl (show _ = nI d from by rw [up2_other _ _ _ _ (by omega), up2_other _ _ _ _ (by omega)]; exact hL d h1 h8) ?_
  refine q_aload_n hJ dX0_fire_32 (q := 33) rfl rfl (by first | rfl | exact isR_rr _) ?_
  refine q_getR hJ dX0_fire_33 (q := 36) rfl fl_X0_63 rfl hkl hli rfl ?_
  refine q_getI hJ dX0_fire_36 (q := 39) rfl fl_X0_150 rfl hki (show _ = img 0 from by rw [up2_other _ _ _ _ (by omega), up2_other _ _ _ _ (by omega)]; exact himg 0 (by decide)) ?_
  refine q_callV hJ dX0_fire_39 (q := 42) rfl (S_logAdd 2 (aR (xA X)) (nI r) (nI d) (img 0) _ R isB2 hFR (by rw [up2_other _ _ _ _ (by omega), up2_other _ _ _ _ (by omega)]; exact hE.2.2.2.1.1) hE.2.2.2.1.2.1) imX1_add ln_X0_214 (ka_log isB2) (by decide) rfl rfl rfl rfl (Nat.le_of_ble_eq_true rfl) (rmOK (by omega) (by decide)) ⟨Nat.le_refl _, Nat.le_refl _⟩ rfl rfl (fun rv gv Iv Rv hv => ?_)
  obtain ⟨rfl, rfl, rfl, rfl⟩ := hv
  have hE1 := hE.cnt d r img hr
  have hI1 := addL_hi I (Q r) (aR (xA X)) (by omega) (xF X + 1) (aU (xA X) r 11 + 1) (nI r) (nI d) (img 0)
  have hI0 := addL_0 I (Q r) (aR (xA X)) (by omega) (xF X + 1) (aU (xA X) r 11 + 1) (nI r) (nI d) (img 0)
  generalize addL (up2 (up2 I 1 4 (xF X + 1)) (Q r) 11 (aU (xA X) r 11 + 1)) 2 (aR (xA X)) (nI r) (nI d) (img 0) = I1 at hE1 hI1 hI0 ⊢
  have hU1 : ∀ f, f < 11 → I1 (Q r) f = aU (xA X) r f := fun f hf => by
    rw [hE1.2.2.1.2.1 r (by rw [(cnt_stb d r img X).2.1]; exact hr) f (by omega)]
    exact (cnt_stb d r img X).1 r f (by omega)
  have hF1 : FrE (62 - 2 * d) I I1 := fun a ha => by rcases ha with rfl | ha; exact hI0; exact hI1 a (by omega)
  have himg1 : ∀ t, t < 4 → I1 (62 - 2 * d) t = img t := fun t ht => by rw [hI1 _ (by omega)]; exact himg t ht
  have hP1 : FlP I I1 (aS (xA X) 1) := FlP.same (hI1 44 (by omega))
  refine q_aload_n hJ dX0_fire_42 (q := 43) rfl rfl (by first | rfl | exact isR_rr _) ?_
  refine q_getI hJ dX0_fire_43 (q := 46) rfl fl_X0_147 rfl hkq (hU1 3 (by decide)) ?_
  by_cases k_0 : aU (xA X) r 3 = 0
  · refine q_tswIn hJ (off := 26) (tgt := 72) dX0_fire_46 (by rw [k_0]; decide) (by rw [k_0]; decide) (by rw [k_0]; decide) (by decide) ?_
    refine q_aload_n hJ dX0_fire_72 (q := 73) rfl rfl (by first | rfl | exact isR_rr _) ?_
    refine q_getR hJ dX0_fire_73 (q := 76) rfl fl_X0_63 rfl hkl hli rfl ?_
    refine q_aload_n hJ dX0_fire_76 (q := 77) rfl rfl (by first | rfl | exact isR_rr _) ?_
    refine q_getI hJ dX0_fire_77 (q := 80) rfl fl_X0_156 rfl hkq (hU1 4 (by decide)) ?_
    refine q_aload_n hJ dX0_fire_80 (q := 81) rfl rfl (by first | rfl | exact isR_rr _) ?_
    refine q_aload_n hJ dX0_fire_81 (q := 82) rfl rfl (by first | rfl | exact isR_rr _) ?_
    refine q_getR hJ dX0_fire_82 (q := 85) rfl fl_X0_63 rfl hkl hli rfl ?_
    refine q_callV hJ dX0_fire_85 (q := 88) rfl (S_valueFor (Q r) (62 - 2 * d) I1 R hkq hki) imX5_valueFor ln_X0_141 hkq (by decide) rfl rfl rfl rfl (Nat.le_of_ble_eq_true rfl) (rmOK (by omega) (by decide)) ⟨Nat.le_refl _, Nat.le_refl _⟩ rfl rfl (fun rv gv Iv Rv hv => ?_)
    obtain ⟨rfl, rfl, rfl, rfl⟩ := hv
    rw [hU1 5 (by decide), hU1 6 (by decide), rowF_congr himg1]
    refine q_callV hJ dX0_fire_88 (q := 91) rfl (S_change (62 - 2 * d) (aU (xA X) r 4) (valF (aU (xA X) r) img) I1 R hki) imX4_change ln_X0_137 hki (by decide) rfl rfl rfl rfl (Nat.le_of_ble_eq_true rfl) (rmOK (by omega) (by decide)) ⟨Nat.le_refl _, Nat.le_refl _⟩ rfl rfl (fun rv gv Iv Rv hv => ?_)
    obtain ⟨rfl, rfl, rfl, rfl⟩ := hv
    refine q_iconst hJ (v := 1) dX0_fire_91 (q := 92) rfl (by decide) ?_
    refine q_iret hM dX0_fire_92 rfl (nz rfl (by decide)) ?_
    have ef : fireA sub d r img X = (true, chgF img (aU (xA X) r 4) (valF (aU (xA X) r) img), cntA d r img X) := by simp only [fireA, if_pos k_0]
    rw [ef]
    refine ⟨rfl, rfl, hE1.agr (fun a q1 q2 => rwC_other (by omega)) (Agr.rf _ _ _), rwC_at himg1, fun a ha => ?_, Out.rf _ _ _, hFR, ?_⟩
    · rw [rwC_other (by omega)]; exact hF1 a ha
    · exact hP1.trans (FlP.same (rwC_other (by omega)))
  by_cases k_1 : aU (xA X) r 3 = 1
  · refine q_tswIn hJ (off := 49) (tgt := 95) dX0_fire_46 (by rw [k_1]; decide) (by rw [k_1]; decide) (by rw [k_1]; decide) (by decide) ?_
    refine q_aload_n hJ dX0_fire_95 (q := 96) rfl rfl (by first | rfl | exact isR_rr _) ?_
    refine q_iconst hJ (v := 1) dX0_fire_96 (q := 97) rfl (by decide) ?_
    refine q_iload_n hJ dX0_fire_97 (q := 98) rfl rfl ?_
    refine q_callV hJ dX0_fire_98 (q := 101) rfl (S_refuse 1 (nI r) I1 R) imX0_refuse ln_X0_159 hk1 (by decide) rfl rfl rfl rfl (Nat.le_of_ble_eq_true rfl) (rmOK (by omega) (by decide)) ⟨Nat.le_refl _, Nat.le_refl _⟩ rfl rfl (fun rv gv Iv Rv hv => ?_)
    obtain ⟨rfl, rfl, rfl, rfl⟩ := hv
    refine q_iconst hJ (v := 0) dX0_fire_101 (q := 102) rfl (by decide) ?_
    refine q_iret hM dX0_fire_102 rfl (nz rfl (by decide)) ?_
    have ef : fireA sub d r img X = (false, img, refA (cntA d r img X) 1 (nI r)) := by simp only [fireA, if_neg k_0, if_pos k_1]
    rw [ef]
    exact ⟨rfl, rfl, hE1.ref 1 _, fun t ht => by rw [up2_other _ _ _ _ (by omega), up2_other _ _ _ _ (by omega)]; exact himg1 t ht, (hF1.up (Or.inl (by omega))).up (Or.inl (by omega)), Out.rf _ _ _, hFR, hP1.trans (FlP.same (by rw [up2_other _ _ _ _ (by decide), up2_other _ _ _ _ (by decide)]))⟩
  by_cases k_2 : aU (xA X) r 3 = 2
  · refine q_tswIn hJ (off := 47) (tgt := 93) dX0_fire_46 (by rw [k_2]; decide) (by rw [k_2]; decide) (by rw [k_2]; decide) (by decide) ?_
    refine q_iconst hJ (v := 0) dX0_fire_93 (q := 94) rfl (by decide) ?_
    refine q_iret hM dX0_fire_94 rfl (nz rfl (by decide)) ?_
    have ef : fireA sub d r img X = (false, img, cntA d r img X) := by simp only [fireA, if_neg k_0, if_neg k_1, if_pos k_2]
    rw [ef]
    exact ⟨rfl, rfl, hE1, himg1, hF1, Out.rf _ _ _, hFR, hP1⟩
  refine q_tswOut hJ (tgt := 103) dX0_fire_46 (tsw_out3 k_0 k_1 k_2) (by decide) ?_
  refine q_aload_n hJ dX0_fire_103 (q := 104) rfl rfl (by first | rfl | exact isR_rr _) ?_
  refine q_iload_n hJ dX0_fire_104 (q := 105) rfl rfl ?_
  refine q_aload_n hJ dX0_fire_105 (q := 106) rfl rfl (by first | rfl | exact isR_rr _) ?_
  refine q_aload_n hJ dX0_fire_106 (q := 107) rfl rfl (by first | rfl | exact isR_rr _) ?_
  refine q_callV hJ dX0_fire_107 (q := 110) rfl (S_cause d e sub cs Q r img (cntA d r img X) I1 R h1 h8 he hsub hFR hE1 hO (hL.keep hF1) (by rw [show aS (xA (cntA d r img X)) = aS (xA X) from (cnt_stb d r img X).2.2]; exact hG.keep hP1) (by rw [show aS (xA (cntA d r img X)) = aS (xA X) from (cnt_stb d r img X).2.2]; exact hnr) (by rw [(cnt_stb d r img X).2.1]; exact hr) himg1) imX0_cause ln_X0_218 hk1 (by decide) rfl rfl rfl rfl (Nat.le_of_ble_eq_true rfl) (rmOK (by omega) (by decide)) ⟨Nat.le_refl _, Nat.le_refl _⟩ rfl rfl (fun rv gv Iv Rv hv => ?_)
  obtain ⟨rfl, rfl, hE3, hF3, hR3, hFR3, hP3⟩ := hv
  rw [show aS (xA (cntA d r img X)) = aS (xA X) from (cnt_stb d r img X).2.2] at hP3
  have ef : fireA sub d r img X = (decide (xR (causeA sub d r img (cntA d r img X)) = 0), img, causeA sub d r img (cntA d r img X)) := by simp only [fireA, if_neg k_0, if_neg k_1, if_neg k_2]
  refine q_aload_n hJ dX0_fire_110 (q := 111) rfl rfl (by first | rfl | exact isR_rr _) ?_
  refine q_getI hJ dX0_fire_111 (q := 114) rfl fl_X0_96 rfl hk1 (show _ = xR (causeA sub d r img (cntA d r img X)) from hE3.2.2.2.2.2.2.2.1) ?_
  refine q_if_ne hJ (tgt := 121) dX0_fire_114 (q := 117) rfl (by decide) (fun c5 => ?_) (fun c5 => ?_)
  · refine q_iconst hJ (v := 0) dX0_fire_121 (q := 122) rfl (by decide) ?_
    refine q_iret hM dX0_fire_122 rfl (nz rfl (by decide)) ?_
    rw [ef]
    refine ⟨by simp [c5], rfl, hE3, fun t ht => ?_, hF1.trans (hF3.wide (by omega)), hR3, hFR3, hP1.trans hP3⟩
    rw [hF3 _ (by omega)]; exact himg1 t ht
  · refine q_iconst hJ (v := 1) dX0_fire_117 (q := 118) rfl (by decide) ?_
    refine q_goto hJ (tgt := 122) dX0_fire_118 (by decide) ?_
    refine q_iret hM dX0_fire_122 rfl (nz rfl (by decide)) ?_
    rw [ef]
    refine ⟨by simp [c5], rfl, hE3, fun t ht => ?_, hF1.trans (hF3.wide (by omega)), hR3, hFR3, hP1.trans hP3⟩
    rw [hF3 _ (by omega)]; exact himg1 t ht

