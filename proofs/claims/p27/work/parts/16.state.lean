/-! A STATE: its abstract value, and how it lies in the cells -/
theorem Sp.weaken {d mc ms : Nat} {Y : MT} {as : List Value} {g : Geo} {I : MI} {R : MR} {Φ Ψ : Po} (h : Sp d mc ms Y as g I R Φ) (hw : ∀ r g' I' R', Φ r g' I' R' → Ψ r g' I' R') : Sp d mc ms Y as g I R Ψ := by
  intro l n0 sb D kA
  refine MetFree.mono (h l n0 sb D kA) (fun _ _ hp => hp) (fun _ _ _ _ _ hk => hk) (fun _ _ _ _ _ hq => ?_)
  obtain ⟨⟨⟨r, g', I', R', e1, e2, e3, e4⟩, hF⟩, hL⟩ := hq
  exact ⟨⟨⟨r, g', I', R', e1, hw _ _ _ _ e2, e3, e4⟩, hF⟩, hL⟩
/-- rows (key, three fields) by place, how many; rules (twelve ints) by number, how many; settings and counts; the record (rule, depth, key), how many -/
abbrev AS : Type := (Nat → Nat → Int32) × Nat × (Nat → Nat → Int32) × Nat × (Nat → Int32) × (Nat → Nat → Int32) × Nat
abbrev aK (A : AS) : Nat → Nat → Int32 := A.1
abbrev aN (A : AS) : Nat := A.2.1
abbrev aU (A : AS) : Nat → Nat → Int32 := A.2.2.1
abbrev aM (A : AS) : Nat := A.2.2.2.1
abbrev aS (A : AS) : Nat → Int32 := A.2.2.2.2.1
abbrev aC (A : AS) : Nat → Nat → Int32 := A.2.2.2.2.2.1
abbrev aR (A : AS) : Nat := A.2.2.2.2.2.2
abbrev rkF (U : Nat → Nat → Int32) : Nat → Int32 := fun r => U r 2
def TabC (I : MI) (R : MR) (b : Nat) (K : Nat → Nat → Int32) (n : Nat) : Prop := ∃ P, TS I R b P n ∧ ∀ j, j < n → ∀ f, f < 4 → I (P j) f = K j f
def RulC (I : MI) (R : MR) (b : Nat) (U : Nat → Nat → Int32) (m : Nat) : Prop := ∃ Q, US I R b Q m ∧ (∀ j, j < m → ∀ f, f < 12 → I (Q j) f = U j f) ∧ ∀ j, j < m → I (b + 25) j = nI (osrt (rkF U) m j)
def LogC (I : MI) (b : Nat) (C : Nat → Nat → Int32) (n : Nat) : Prop := I (b + 38) 3 = nI n ∧ n ≤ 60 ∧ ∀ i, i < n → ∀ w, w < 3 → I (b + 39 + w) i = C i w
def SetC (I : MI) (b : Nat) (S : Nat → Int32) : Prop := ∀ i, i < 6 → I b (3 + i) = S i
def CS (I : MI) (R : MR) (b : Nat) (A : AS) : Prop := SetC I b (aS A) ∧ TabC I R b (aK A) (aN A) ∧ RulC I R b (aU A) (aM A) ∧ LogC I b (aC A) (aR A)
def okU (U : Nat → Nat → Int32) (m : Nat) : Prop := ∀ j, j < m → U j 10 = 0 ∨ U j 10 = 1
/-- the cells from lo to hi are the same -/
def Agr {α : Type} (I I' : Nat → Nat → α) (lo hi : Nat) : Prop := ∀ a, lo ≤ a → a < hi → I' a = I a
def Out {α : Type} (I I' : Nat → Nat → α) (lo hi : Nat) : Prop := ∀ a, a < lo ∨ hi ≤ a → I' a = I a
theorem Out.trans {α : Type} {I I' I2 : Nat → Nat → α} {lo hi : Nat} (h1 : Out I I' lo hi) (h2 : Out I' I2 lo hi) : Out I I2 lo hi := fun a h => (h2 a h).trans (h1 a h)
theorem Out.wide {α : Type} {I I' : Nat → Nat → α} {lo hi lo2 hi2 : Nat} (h : Out I I' lo hi) (h1 : lo2 ≤ lo) (h2 : hi ≤ hi2) : Out I I' lo2 hi2 := fun a ha => h a (by omega)
theorem Out.rf {α : Type} (I : Nat → Nat → α) (lo hi : Nat) : Out I I lo hi := fun _ _ => rfl
theorem Out.up {α : Type} {I I' : Nat → Nat → α} {lo hi a k : Nat} {v : α} (h : Out I I' lo hi) (h1 : lo ≤ a) (h2 : a < hi) : Out I (up2 I' a k v) lo hi := fun c hc => (up2_other I' a k v (by omega)).trans (h c hc)
theorem TabC.agr {I I' : MI} {R R' : MR} {b n : Nat} {K : Nat → Nat → Int32} (h : TabC I R b K n) (h1 : Agr I I' (b + 1) (b + 23)) (h2 : Agr R R' (b + 1) (b + 23)) : TabC I' R' b K n := by
  obtain ⟨P, ⟨e1, e2, e3⟩, e4⟩ := h
  refine ⟨P, ⟨by rw [h1 _ (by omega) (by omega)]; exact e1, e2, fun j hj => by rw [h2 _ (by omega) (by omega)]; exact e3 j hj⟩, fun j hj f hf => ?_⟩
  have := e3 j (by omega)
  rw [h1 _ (by omega) (by omega)]
  exact e4 j hj f hf
theorem RulC.agr {I I' : MI} {R R' : MR} {b m : Nat} {U : Nat → Nat → Int32} (h : RulC I R b U m) (h1 : Agr I I' (b + 23) (b + 38)) (h2 : Agr R R' (b + 23) (b + 38)) : RulC I' R' b U m := by
  obtain ⟨Q, ⟨e1, e2, e3⟩, e4, e5⟩ := h
  refine ⟨Q, ⟨by rw [h1 _ (by omega) (by omega)]; exact e1, e2, fun j hj => by rw [h2 _ (by omega) (by omega)]; exact e3 j hj⟩, fun j hj f hf => ?_, fun j hj => by rw [h1 _ (by omega) (by omega)]; exact e5 j hj⟩
  have := e3 j (by omega)
  rw [h1 _ (by omega) (by omega)]
  exact e4 j hj f hf
theorem LogC.agr {I I' : MI} {b n : Nat} {C : Nat → Nat → Int32} (h : LogC I b C n) (h1 : Agr I I' (b + 38) (b + 42)) : LogC I' b C n := by
  obtain ⟨e1, e2, e3⟩ := h
  exact ⟨by rw [h1 _ (by omega) (by omega)]; exact e1, e2, fun i hi w hw => by rw [h1 _ (by omega) (by omega)]; exact e3 i hi w hw⟩
theorem SetC.agr {I I' : MI} {b : Nat} {S : Nat → Int32} (h : SetC I b S) (h1 : Agr I I' b (b + 1)) : SetC I' b S := fun i hi => by rw [h1 _ (by omega) (by omega)]; exact h i hi
theorem CS.agr {I I' : MI} {R R' : MR} {b : Nat} {A : AS} (h : CS I R b A) (h1 : Agr I I' b (b + 42)) (h2 : Agr R R' b (b + 42)) : CS I' R' b A :=
  ⟨h.1.agr (fun a q1 q2 => h1 a (by omega) (by omega)), h.2.1.agr (fun a q1 q2 => h1 a (by omega) (by omega)) (fun a q1 q2 => h2 a (by omega) (by omega)), h.2.2.1.agr (fun a q1 q2 => h1 a (by omega) (by omega)) (fun a q1 q2 => h2 a (by omega) (by omega)), h.2.2.2.agr (fun a q1 q2 => h1 a (by omega) (by omega))⟩
theorem Agr.rf {α : Type} (I : Nat → Nat → α) (lo hi : Nat) : Agr I I lo hi := fun _ _ _ => rfl
theorem Out.agr {α : Type} {I I' : Nat → Nat → α} {lo hi l2 h2 : Nat} (h : Out I I' lo hi) (hd : h2 ≤ lo ∨ hi ≤ l2) : Agr I I' l2 h2 := fun a q1 q2 => h a (by omega)
/-! what a contract says of a change: no answer, the references as they were, the ints changed within a range alone -/
def Wr (lo hi : Nat) (I : MI) (R : MR) (X : MI → Prop) : Po := fun r g' I' R' => r = none ∧ g0 = g' ∧ R = R' ∧ X I' ∧ Out I I' lo hi
theorem S_tblCopyC (b c n1 n2 : Nat) (K1 K2 : Nat → Nat → Int32) (I : MI) (R : MR) (hB : isB b) (hC : isB c) (hne : b ≠ c) (hFR : FR R) (h1 : TabC I R b K1 n1) (h2 : TabC I R c K2 n2) : Sp 1 0 0 mX8_copyFrom [.ref (b + 1), .ref (c + 1)] g0 I R (Wr (b + 1) (b + 23) I R (fun I' => TabC I' R b K2 n2)) := by
  obtain ⟨P1, t1, k1⟩ := h1
  obtain ⟨P2, t2, k2⟩ := h2
  refine (S_tblCopy b c n1 n2 P1 P2 I R hB hC hne hFR t1 t2).weaken ?_
  rintro r g' I' R' ⟨rfl, rfl, rfl, rfl⟩
  have hdis := isB_dis hB hC hne
  have hp1 := t1.2.2
  have hp2 := t2.2.2
  have hn2 := t2.2.1
  refine ⟨rfl, rfl, rfl, ⟨P1, ⟨?_, hn2, hp1⟩, fun j hj f hf => ?_⟩, fun a ha => ?_⟩
  · rw [cpR_other _ _ _ _ _ _ (fun i hi z => by have := hp1 i (by omega); omega)]
    simp [up2_app]
  · rw [cpR_at _ _ _ _ _ _ _ hj hf (fun x y hx hy e => ((hp1 y (by omega)).2.2.2 x (by omega) e)) (fun x y hx hy z => by have := hp1 y (by omega); have := hp2 x (by omega); omega)]
    have := hp2 j (by omega)
    rw [up2_other _ _ _ _ (by omega)]
    exact k2 j hj f hf
  · funext t
    rw [cpR_other _ _ _ _ _ _ (fun i hi z => by have := hp1 i (by omega); omega), up2_other _ _ _ _ (by omega)]
theorem S_rulesCopyC (b c m1 m2 : Nat) (U1 U2 : Nat → Nat → Int32) (I : MI) (R : MR) (hB : isB b) (hC : isB c) (hne : b ≠ c) (hFR : FR R) (h1 : RulC I R b U1 m1) (h2 : RulC I R c U2 m2) (hok : okU U2 m2) : Sp 3 0 0 mX6_copyFrom [.ref (b + 23), .ref (c + 23)] g0 I R (Wr (b + 23) (b + 38) I R (fun I' => RulC I' R b U2 m2)) := by
  obtain ⟨Q1, t1, k1, o1⟩ := h1
  obtain ⟨Q2, t2, k2, o2⟩ := h2
  refine (S_rulesCopy b c m1 m2 Q1 Q2 I R hB hC hne hFR t1 t2 (fun j hj => by rw [k2 j hj 10 (by decide)]; exact hok j hj)).weaken ?_
  rintro r g' I' R' ⟨rfl, rfl, rfl, rfl⟩
  have hdis := isB_dis hB hC hne
  have hp1 := t1.2.2
  have hp2 := t2.2.2
  have hn2 := t2.2.1
  refine ⟨rfl, rfl, rfl, ⟨Q1, ⟨?_, hn2, hp1⟩, fun j hj f hf => ?_, fun j hj => ?_⟩, fun a ha => ?_⟩
  · rw [cp0_other (by omega), cpR_other _ _ _ _ _ _ (fun i hi z => by have := hp1 i (by omega); omega)]
    simp [up2_app]
  · have h3 := hp1 j (by omega)
    rw [cp0_other (by omega), cpR_at _ _ _ _ _ _ _ hj hf (fun x y hx hy e => ((hp1 y (by omega)).2.2.2 x (by omega) e)) (fun x y hx hy z => by have := hp1 y (by omega); have := hp2 x (by omega); omega)]
    have := hp2 j (by omega)
    rw [up2_other _ _ _ _ (by omega)]
    exact k2 j hj f hf
  · simp only [cp0]
    rw [if_pos ⟨trivial, by omega⟩, cpR_other _ _ _ _ _ _ (fun i hi z => by have := hp1 i (by omega); omega), up2_other _ _ _ _ (by omega)]
    exact o2 j hj
  · funext t
    rw [cp0_other (by omega), cpR_other _ _ _ _ _ _ (fun i hi z => by have := hp1 i (by omega); omega), up2_other _ _ _ _ (by omega)]
theorem cp0_in {I : MI} {x y n t : Nat} (h : t < n) : cp0 I x y n y t = I x t := by simp [cp0, h]
theorem S_logCopyC (b c n2 : Nat) (C2 : Nat → Nat → Int32) (I : MI) (R : MR) (hB : isB b) (hC : isB c) (hne : b ≠ c) (hFR : FR R) (h2 : LogC I c C2 n2) : Sp 1 0 0 mX1_copyFrom [.ref (b + 38), .ref (c + 38)] g0 I R (Wr (b + 38) (b + 42) I R (fun I' => LogC I' b C2 n2)) := by
  obtain ⟨e1, e2, e3⟩ := h2
  refine (S_logCopy b c I R hB hC hFR).weaken ?_
  rintro r g' I' R' ⟨rfl, rfl, rfl, rfl⟩
  have hdis := isB_dis hB hC hne
  refine ⟨rfl, rfl, rfl, ⟨?_, e2, fun i hi w hw => ?_⟩, fun a ha => ?_⟩
  · rw [cp0_other (by omega), cp0_other (by omega), cp0_other (by omega)]
    simp [up2_app, e1]
  · have h0 := e3 i hi w hw
    rcases (show w = 0 ∨ w = 1 ∨ w = 2 by omega) with rfl | rfl | rfl
    · show cp0 _ _ _ _ (b + 39) i = _
      rw [cp0_other (by omega), cp0_other (by omega), cp0_in (by omega), up2_other _ _ _ _ (by omega)]
      exact h0
    · show cp0 _ _ _ _ (b + 40) i = _
      rw [cp0_other (by omega), cp0_in (by omega), cp0_other (by omega), up2_other _ _ _ _ (by omega)]
      exact h0
    · show cp0 _ _ _ _ (b + 41) i = _
      rw [cp0_in (by omega), cp0_other (by omega), cp0_other (by omega), up2_other _ _ _ _ (by omega)]
      exact h0
  · funext t
    rw [cp0_other (by omega), cp0_other (by omega), cp0_other (by omega), up2_other _ _ _ _ (by omega)]
set_option maxRecDepth 100000 in
set_option maxHeartbeats 400000 in
theorem S_stateCopy (b c : Nat) (A1 A2 : AS) (I : MI) (R : MR) (hB : isB b) (hC : isB c) (hne : b ≠ c) (hFR : FR R) (h1 : CS I R b A1) (h2 : CS I R c A2) (hok : okU (aU A2) (aM A2)) : Sp 4 0 0 mX7_copyFrom [.ref b, .ref c] g0 I R (Wr b (b + 42) I R (fun I' => CS I' R b A2)) := by
  have hdis := isB_dis hB hC hne
  have hkb := ka_sta hB
  have hkc := ka_sta hC
  have hk1 := ka_tbl hB
  have hk2 := ka_rls hB
  have hk3 := ka_log hB
  obtain ⟨x0, x1, x2, -, -, -, -, -, -⟩ := hFR.1 b hB
  obtain ⟨y0, y1, y2, -, -, -, -, -, -⟩ := hFR.1 c hC
  obtain ⟨s1, t1, u1, l1⟩ := h1
  obtain ⟨s2, t2, u2, l2⟩ := h2
  refine Sp.on (by decide +kernel) rfl rfl (fun J hM => ?_)
  have hJ := hM.ok
  refine q_aload_n hJ dX7_copyFrom_0 (q := 1) rfl rfl rfl ?_
  refine q_getR hJ dX7_copyFrom_1 (q := 4) rfl fl_X7_12 rfl (by assumption) (by assumption) rfl ?_
  refine q_aload_n hJ dX7_copyFrom_4 (q := 5) rfl rfl rfl ?_
  refine q_getR hJ dX7_copyFrom_5 (q := 8) rfl fl_X7_12 rfl (by assumption) (by assumption) rfl ?_
  refine q_callV hJ dX7_copyFrom_8 (q := 11) rfl (S_tblCopyC b c _ _ _ _ I R hB hC hne hFR t1 t2) imX8_copyFrom ln_X7_36 hk1 (by decide) rfl rfl rfl rfl (Nat.le_of_ble_eq_true rfl) (by decide) (by decide) rfl rfl (fun rv gv Iv Rv hv => ?_)
  obtain ⟨rfl, rfl, rfl, hX1, hO1⟩ := hv
  refine q_aload_n hJ dX7_copyFrom_11 (q := 12) rfl rfl rfl ?_
  refine q_getR hJ dX7_copyFrom_12 (q := 15) rfl fl_X7_21 rfl (by assumption) (by assumption) rfl ?_
  refine q_aload_n hJ dX7_copyFrom_15 (q := 16) rfl rfl rfl ?_
  refine q_getR hJ dX7_copyFrom_16 (q := 19) rfl fl_X7_21 rfl (by assumption) (by assumption) rfl ?_
  refine q_callV hJ dX7_copyFrom_19 (q := 22) rfl (S_rulesCopyC b c _ _ _ _ _ R hB hC hne hFR (u1.agr (hO1.agr (by omega)) (Agr.rf _ _ _)) (u2.agr (hO1.agr (by omega)) (Agr.rf _ _ _)) hok) imX6_copyFrom ln_X7_40 hk2 (by decide) rfl rfl rfl rfl (Nat.le_of_ble_eq_true rfl) (by decide) (by decide) rfl rfl (fun rv gv Iv Rv hv => ?_)
  obtain ⟨rfl, rfl, rfl, hX2, hO2⟩ := hv
  refine q_aload_n hJ dX7_copyFrom_22 (q := 23) rfl rfl rfl ?_
  refine q_getR hJ dX7_copyFrom_23 (q := 26) rfl fl_X7_28 rfl (by assumption) (by assumption) rfl ?_
  refine q_aload_n hJ dX7_copyFrom_26 (q := 27) rfl rfl rfl ?_
  refine q_getR hJ dX7_copyFrom_27 (q := 30) rfl fl_X7_28 rfl (by assumption) (by assumption) rfl ?_
  refine q_callV hJ dX7_copyFrom_30 (q := 33) rfl (S_logCopyC b c _ _ _ R hB hC hne hFR ((l2.agr (hO1.agr (by omega))).agr (hO2.agr (by omega)))) imX1_copyFrom ln_X7_43 hk3 (by decide) rfl rfl rfl rfl (Nat.le_of_ble_eq_true rfl) (by decide) (by decide) rfl rfl (fun rv gv Iv Rv hv => ?_)
  obtain ⟨rfl, rfl, rfl, hX3, hO3⟩ := hv
  have hO : Out I Iv b (b + 42) := ((hO1.wide (by omega) (by omega)).trans (hO2.wide (by omega) (by omega))).trans (hO3.wide (by omega) (by omega))
  have hcI : ∀ j, Iv c j = I c j := fun j => congrFun (hO c (by omega)) j
  refine q_aload_n hJ dX7_copyFrom_33 (q := 34) rfl rfl rfl ?_
  refine q_aload_n hJ dX7_copyFrom_34 (q := 35) rfl rfl rfl ?_
  refine q_getI hJ dX7_copyFrom_35 (q := 38) rfl fl_X7_32 rfl hkc (show _ = aS A2 0 from by (repeat rw [up2_other _ _ _ _ hne.symm]); rw [hcI]; exact s2 0 (by decide)) ?_
  refine q_putI hJ dX7_copyFrom_38 (q := 41) rfl fl_X7_32 rfl rfl hkb rfl rfl ?_
  refine q_aload_n hJ dX7_copyFrom_41 (q := 42) rfl rfl rfl ?_
  refine q_aload_n hJ dX7_copyFrom_42 (q := 43) rfl rfl rfl ?_
  refine q_getI hJ dX7_copyFrom_43 (q := 46) rfl fl_X7_46 rfl hkc (show _ = aS A2 1 from by (repeat rw [up2_other _ _ _ _ hne.symm]); rw [hcI]; exact s2 1 (by decide)) ?_
  refine q_putI hJ dX7_copyFrom_46 (q := 49) rfl fl_X7_46 rfl rfl hkb rfl rfl ?_
  refine q_aload_n hJ dX7_copyFrom_49 (q := 50) rfl rfl rfl ?_
  refine q_aload_n hJ dX7_copyFrom_50 (q := 51) rfl rfl rfl ?_
  refine q_getI hJ dX7_copyFrom_51 (q := 54) rfl fl_X7_49 rfl hkc (show _ = aS A2 2 from by (repeat rw [up2_other _ _ _ _ hne.symm]); rw [hcI]; exact s2 2 (by decide)) ?_
  refine q_putI hJ dX7_copyFrom_54 (q := 57) rfl fl_X7_49 rfl rfl hkb rfl rfl ?_
  refine q_aload_n hJ dX7_copyFrom_57 (q := 58) rfl rfl rfl ?_
  refine q_aload_n hJ dX7_copyFrom_58 (q := 59) rfl rfl rfl ?_
  refine q_getI hJ dX7_copyFrom_59 (q := 62) rfl fl_X7_52 rfl hkc (show _ = aS A2 3 from by (repeat rw [up2_other _ _ _ _ hne.symm]); rw [hcI]; exact s2 3 (by decide)) ?_
  refine q_putI hJ dX7_copyFrom_62 (q := 65) rfl fl_X7_52 rfl rfl hkb rfl rfl ?_
  refine q_aload_n hJ dX7_copyFrom_65 (q := 66) rfl rfl rfl ?_
  refine q_aload_n hJ dX7_copyFrom_66 (q := 67) rfl rfl rfl ?_
  refine q_getI hJ dX7_copyFrom_67 (q := 70) rfl fl_X7_55 rfl hkc (show _ = aS A2 4 from by (repeat rw [up2_other _ _ _ _ hne.symm]); rw [hcI]; exact s2 4 (by decide)) ?_
  refine q_putI hJ dX7_copyFrom_70 (q := 73) rfl fl_X7_55 rfl rfl hkb rfl rfl ?_
  refine q_aload_n hJ dX7_copyFrom_73 (q := 74) rfl rfl rfl ?_
  refine q_aload_n hJ dX7_copyFrom_74 (q := 75) rfl rfl rfl ?_
  refine q_getI hJ dX7_copyFrom_75 (q := 78) rfl fl_X7_58 rfl hkc (show _ = aS A2 5 from by (repeat rw [up2_other _ _ _ _ hne.symm]); rw [hcI]; exact s2 5 (by decide)) ?_
  refine q_putI hJ dX7_copyFrom_78 (q := 81) rfl fl_X7_58 rfl rfl hkb rfl rfl ?_
  refine q_vret hM dX7_copyFrom_81 rfl ?_
  refine ⟨rfl, rfl, rfl, ⟨fun i hi => ?_, ?_, ?_, ?_⟩, ?_⟩
  · rcases (show i = 0 ∨ i = 1 ∨ i = 2 ∨ i = 3 ∨ i = 4 ∨ i = 5 by omega) with rfl | rfl | rfl | rfl | rfl | rfl <;> simp [up2_app]
  · exact hX1.agr (fun a q1 q2 => by rw [up2_other _ _ _ _ (by omega), up2_other _ _ _ _ (by omega), up2_other _ _ _ _ (by omega), up2_other _ _ _ _ (by omega), up2_other _ _ _ _ (by omega), up2_other _ _ _ _ (by omega), hO3 a (by omega), hO2 a (by omega)]) (Agr.rf _ _ _)
  · exact hX2.agr (fun a q1 q2 => by rw [up2_other _ _ _ _ (by omega), up2_other _ _ _ _ (by omega), up2_other _ _ _ _ (by omega), up2_other _ _ _ _ (by omega), up2_other _ _ _ _ (by omega), up2_other _ _ _ _ (by omega), hO3 a (by omega)]) (Agr.rf _ _ _)
  · exact hX3.agr (fun a q1 q2 => by rw [up2_other _ _ _ _ (by omega), up2_other _ _ _ _ (by omega), up2_other _ _ _ _ (by omega), up2_other _ _ _ _ (by omega), up2_other _ _ _ _ (by omega), up2_other _ _ _ _ (by omega)])
  · exact (((((hO.up (by omega) (by omega)).up (by omega) (by omega)).up (by omega) (by omega)).up (by omega) (by omega)).up (by omega) (by omega)).up (by omega) (by omega)

def stTell (A : AS) (w : Int32) : Int32 := if w = 0 then nI (aN A) else if w = 1 then nI (aM A) else if w = 2 then nI (coF (fun j => aU A j 10) (aM A)) else if w = 3 then aS A 0 else if w = 4 then aS A 1 else if w = 5 then aS A 2 else if w = 6 then aS A 3 else if w = 7 then aS A 4 else if w = 8 then aS A 5 else if w = 9 then nI (aR A) else -1002
theorem coF_congr {f f' : Nat → Int32} {k : Nat} (h : ∀ j, j < k → f j = f' j) : coF f k = coF f' k := by
  induction k with
  | zero => rfl
  | succ k ih =>
    unfold coF
    rw [ih (fun j hj => h j (by omega)), h k (by omega)]
theorem S_countOnC (b m : Nat) (U : Nat → Nat → Int32) (I : MI) (R : MR) (hB : isB b) (hFR : FR R) (h : RulC I R b U m) : Sp 1 0 0 mX6_countOn [.ref (b + 23)] g0 I R (Rt (some (.int (nI (coF (fun j => U j 10) m)))) g0 I R) := by
  obtain ⟨Q, t, k, o⟩ := h
  have e : coF (fun j => U j 10) m = coF (fun j => I (Q j) 10) m := coF_congr (fun j hj => (k j hj 10 (by decide)).symm)
  rw [e]
  exact S_countOn b m Q I R hB hFR t
set_option maxRecDepth 100000 in
set_option maxHeartbeats 400000 in
theorem S_stateTell (b : Nat) (A : AS) (w : Int32) (I : MI) (R : MR) (hB : isB b) (hFR : FR R) (h1 : CS I R b A) : Sp 2 0 0 mX7_tell [.ref b, .int w] g0 I R (Rt (some (.int (stTell A w))) g0 I R) := by
  have hkb := ka_sta hB
  have hk1 := ka_tbl hB
  have hk2 := ka_rls hB
  have hk3 := ka_log hB
  obtain ⟨x0, x1, x2, -, -, -, -, -, -⟩ := hFR.1 b hB
  obtain ⟨s1, t1, u1, l1⟩ := h1
  refine Sp.on (by decide +kernel) rfl rfl (fun J hM => ?_)
  have hJ := hM.ok
  refine q_iload_n hJ dX7_tell_0 (q := 1) rfl rfl ?_
  by_cases k1_0 : w = 0
  · refine q_tswIn hJ (off := 55) (tgt := 56) dX7_tell_1 (by rw [k1_0]; decide) (by rw [k1_0]; decide) (by rw [k1_0]; decide) (by decide) ?_
    refine q_aload_n hJ dX7_tell_56 (q := 57) rfl rfl rfl ?_
    refine q_getR hJ dX7_tell_57 (q := 60) rfl fl_X7_12 rfl (by assumption) (by assumption) rfl ?_
    refine q_getI hJ dX7_tell_60 (q := 63) rfl fl_X7_61 rfl hk1 (show I (b + 1) 1 = nI (aN A) from by obtain ⟨P, z, -⟩ := t1; exact z.1) ?_
    refine q_iret hM dX7_tell_63 rfl rfl ?_
    exact ⟨by simp [stTell, *], rfl, rfl, rfl⟩
  by_cases k1_1 : w = 1
  · refine q_tswIn hJ (off := 63) (tgt := 64) dX7_tell_1 (by rw [k1_1]; decide) (by rw [k1_1]; decide) (by rw [k1_1]; decide) (by decide) ?_
    refine q_aload_n hJ dX7_tell_64 (q := 65) rfl rfl rfl ?_
    refine q_getR hJ dX7_tell_65 (q := 68) rfl fl_X7_21 rfl (by assumption) (by assumption) rfl ?_
    refine q_getI hJ dX7_tell_68 (q := 71) rfl fl_X7_64 rfl hk2 (show I (b + 23) 2 = nI (aM A) from by obtain ⟨P, z, -⟩ := u1; exact z.1) ?_
    refine q_iret hM dX7_tell_71 rfl rfl ?_
    exact ⟨by simp [stTell, *], rfl, rfl, rfl⟩
  by_cases k1_2 : w = 2
  · refine q_tswIn hJ (off := 71) (tgt := 72) dX7_tell_1 (by rw [k1_2]; decide) (by rw [k1_2]; decide) (by rw [k1_2]; decide) (by decide) ?_
    refine q_aload_n hJ dX7_tell_72 (q := 73) rfl rfl rfl ?_
    refine q_getR hJ dX7_tell_73 (q := 76) rfl fl_X7_21 rfl (by assumption) (by assumption) rfl ?_
    refine q_callV hJ dX7_tell_76 (q := 79) rfl (S_countOnC b _ _ I R hB hFR u1) imX6_countOn ln_X7_65 hk2 (by decide) rfl rfl rfl rfl (Nat.le_of_ble_eq_true rfl) (by decide) (by decide) rfl rfl (fun rv gv Iv Rv hv => ?_)
    obtain ⟨rfl, rfl, rfl, rfl⟩ := hv
    refine q_iret hM dX7_tell_79 rfl rfl ?_
    exact ⟨by simp [stTell, *], rfl, rfl, rfl⟩
  by_cases k1_3 : w = 3
  · refine q_tswIn hJ (off := 79) (tgt := 80) dX7_tell_1 (by rw [k1_3]; decide) (by rw [k1_3]; decide) (by rw [k1_3]; decide) (by decide) ?_
    refine q_aload_n hJ dX7_tell_80 (q := 81) rfl rfl rfl ?_
    refine q_getI hJ dX7_tell_81 (q := 84) rfl fl_X7_32 rfl (by assumption) (s1 0 (by decide)) ?_
    refine q_iret hM dX7_tell_84 rfl rfl ?_
    exact ⟨by simp [stTell, *], rfl, rfl, rfl⟩
  by_cases k1_4 : w = 4
  · refine q_tswIn hJ (off := 84) (tgt := 85) dX7_tell_1 (by rw [k1_4]; decide) (by rw [k1_4]; decide) (by rw [k1_4]; decide) (by decide) ?_
    refine q_aload_n hJ dX7_tell_85 (q := 86) rfl rfl rfl ?_
    refine q_getI hJ dX7_tell_86 (q := 89) rfl fl_X7_46 rfl (by assumption) (s1 1 (by decide)) ?_
    refine q_iret hM dX7_tell_89 rfl rfl ?_
    exact ⟨by simp [stTell, *], rfl, rfl, rfl⟩
  by_cases k1_5 : w = 5
  · refine q_tswIn hJ (off := 89) (tgt := 90) dX7_tell_1 (by rw [k1_5]; decide) (by rw [k1_5]; decide) (by rw [k1_5]; decide) (by decide) ?_
    refine q_aload_n hJ dX7_tell_90 (q := 91) rfl rfl rfl ?_
    refine q_getI hJ dX7_tell_91 (q := 94) rfl fl_X7_49 rfl (by assumption) (s1 2 (by decide)) ?_
    refine q_iret hM dX7_tell_94 rfl rfl ?_
    exact ⟨by simp [stTell, *], rfl, rfl, rfl⟩
  by_cases k1_6 : w = 6
  · refine q_tswIn hJ (off := 94) (tgt := 95) dX7_tell_1 (by rw [k1_6]; decide) (by rw [k1_6]; decide) (by rw [k1_6]; decide) (by decide) ?_
    refine q_aload_n hJ dX7_tell_95 (q := 96) rfl rfl rfl ?_
    refine q_getI hJ dX7_tell_96 (q := 99) rfl fl_X7_52 rfl (by assumption) (s1 3 (by decide)) ?_
    refine q_iret hM dX7_tell_99 rfl rfl ?_
    exact ⟨by simp [stTell, *], rfl, rfl, rfl⟩
  by_cases k1_7 : w = 7
  · refine q_tswIn hJ (off := 99) (tgt := 100) dX7_tell_1 (by rw [k1_7]; decide) (by rw [k1_7]; decide) (by rw [k1_7]; decide) (by decide) ?_
    refine q_aload_n hJ dX7_tell_100 (q := 101) rfl rfl rfl ?_
    refine q_getI hJ dX7_tell_101 (q := 104) rfl fl_X7_55 rfl (by assumption) (s1 4 (by decide)) ?_
    refine q_iret hM dX7_tell_104 rfl rfl ?_
    exact ⟨by simp [stTell, *], rfl, rfl, rfl⟩
  by_cases k1_8 : w = 8
  · refine q_tswIn hJ (off := 104) (tgt := 105) dX7_tell_1 (by rw [k1_8]; decide) (by rw [k1_8]; decide) (by rw [k1_8]; decide) (by decide) ?_
    refine q_aload_n hJ dX7_tell_105 (q := 106) rfl rfl rfl ?_
    refine q_getI hJ dX7_tell_106 (q := 109) rfl fl_X7_58 rfl (by assumption) (s1 5 (by decide)) ?_
    refine q_iret hM dX7_tell_109 rfl rfl ?_
    exact ⟨by simp [stTell, *], rfl, rfl, rfl⟩
  by_cases k1_9 : w = 9
  · refine q_tswIn hJ (off := 109) (tgt := 110) dX7_tell_1 (by rw [k1_9]; decide) (by rw [k1_9]; decide) (by rw [k1_9]; decide) (by decide) ?_
    refine q_aload_n hJ dX7_tell_110 (q := 111) rfl rfl rfl ?_
    refine q_getR hJ dX7_tell_111 (q := 114) rfl fl_X7_28 rfl (by assumption) (by assumption) rfl ?_
    refine q_getI hJ dX7_tell_114 (q := 117) rfl fl_X7_69 rfl hk3 l1.1 ?_
    refine q_iret hM dX7_tell_117 rfl rfl ?_
    exact ⟨by simp [stTell, *], rfl, rfl, rfl⟩
  refine q_tswOut hJ (tgt := 118) dX7_tell_1 (tsw_out10 k1_0 k1_1 k1_2 k1_3 k1_4 k1_5 k1_6 k1_7 k1_8 k1_9) (by decide) ?_
  refine q_sipush hJ (v := (-1002)) dX7_tell_118 (q := 121) rfl (by decide) ?_
  refine q_iret hM dX7_tell_121 rfl rfl ?_
  exact ⟨by simp [stTell, *], rfl, rfl, rfl⟩

