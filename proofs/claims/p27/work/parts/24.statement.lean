/-! A STATEMENT -/
def X0 (A : AS) : XS := (setC A (aC A) 0, 0, 0, 0, 0, -1006)
def XR (ev : Int32) (img : Nat → Int32) (A : AS) : XS := opA 7 [] ev (-1006) img (X0 A)
def finA (X : XS) : AS := setS (xA X) (fun i => if i = 2 then aS (xA X) 2 + 1 else if i = 3 then aS (xA X) 3 + nI (xO X) else if i = 4 then aS (xA X) 4 + xF X else if i = 5 then (if aS (xA X) 5 < xD X then xD X else aS (xA X) 5) else aS (xA X) i)
def FZ (I : MI) : Prop := ∀ r, r < 12 → I 44 r = 0
def runR (X : XS) : Int32 := if xR X = 0 then nI (xO X) else -1005
def runA (X : XS) : AS := if xR X = 0 then finA X else xA X
def EN (I : MI) (X : XS) : Prop := I 1 3 = nI (xO X) ∧ I 1 4 = xF X ∧ I 1 5 = xD X ∧ I 1 6 = xR X ∧ I 1 7 = xW X
def RuPo (I : MI) (R : MR) (X : XS) : Po := fun r g' I' R' => r = some (.int (runR X)) ∧ g0 = g' ∧ CS I' R' 2 (runA X) ∧ EN I' X ∧ FrE 60 I I' ∧ Out R R' 4 5 ∧ FR R' ∧ FZ I'
theorem FlG.zero {I : MI} (h : FZ I) (G : Int32) : FlG I G [] := fun _ r hr => by rw [h r hr]; rfl
theorem FZ.keep {I I' : MI} {G : Int32} (h : FZ I) (hp : FlP I I' G) : FZ I' := fun r hr => by
  rcases hp.1 r with q | q
  · rw [q]; exact h r hr
  · exact q
theorem XR_stb (ev : Int32) (img : Nat → Int32) (A : AS) : Stb (X0 A) (XR ev img A) ∧ xO (XR ev img A) ≤ 100 := ⟨(opA_stb 7 _ _ _ _ _).1, (opA_stb 7 _ _ _ _ _).2 (by show 0 ≤ 100; omega)⟩
theorem EX.zero {I : MI} {R : MR} {A : AS} (h : CS I R 2 A) : ∃ Q, EX Q (up2 (up2 (up2 (up2 (up2 (up2 I 40 3 0) 1 3 0) 1 4 0) 1 5 0) 1 6 0) 1 7 (-1006)) R (X0 A) := by
  obtain ⟨h1, h2, ⟨Q, h3⟩, h4⟩ := h
  have ag : ∀ a, 2 ≤ a → a ≠ 40 → up2 (up2 (up2 (up2 (up2 (up2 I 40 3 0) 1 3 0) 1 4 0) 1 5 0) 1 6 0) 1 7 (-1006) a = I a := fun a q1 q2 => by
    rw [up2_other _ _ _ _ (by omega), up2_other _ _ _ _ (by omega), up2_other _ _ _ _ (by omega), up2_other _ _ _ _ (by omega), up2_other _ _ _ _ (by omega), up2_other _ _ _ _ (by omega)]
  refine ⟨Q, h1.agr (fun a q1 q2 => ag a (by omega) (by omega)), h2.agr (fun a q1 q2 => ag a (by omega) (by omega)) (Agr.rf _ _ _), RulQ.agr h3 (fun a q1 q2 => ag a (by omega) (by omega)) (Agr.rf _ _ _), ⟨?_, by show 0 ≤ 60; omega, fun i hi => ?_⟩, ?_, ?_, ?_, ?_, ?_⟩
  · simp [up2_app]; rfl
  · have : i < 0 := hi
    omega
  · simp [up2_app]; rfl
  · simp [up2_app]; rfl
  · simp [up2_app]; rfl
  · simp [up2_app]; rfl
  · simp [up2_app]; rfl
theorem EX.cs {Q : Nat → Nat} {I : MI} {R : MR} {X : XS} (h : EX Q I R X) : CS I R 2 (xA X) := ⟨h.1, h.2.1, ⟨Q, h.2.2.1⟩, h.2.2.2.1⟩
set_option maxRecDepth 100000 in
set_option maxHeartbeats 1600000 in
theorem S_run (ev : Int32) (img : Nat → Int32) (A : AS) (I : MI) (R : MR) (hFR : FR R) (hA : CS I R 2 A) (hL : Lv I) (hZ : FZ I) (himg : ∀ t, t < 4 → I 60 t = img t) : Sp 35 0 0 mX0_run [.ref 1, .int ev] g0 I R (RuPo I R (XR ev img A)) := by
  have hk1 := ka1
  have hk2 := ka_sta isB2
  have he0 := hFR.2.2.1.1
  refine Sp.on (by decide +kernel) rfl rfl (fun J hM => ?_)
  have hJ := hM.ok
  refine q_aload_n hJ dX0_run_0 (q := 1) rfl rfl (by first | rfl | exact isR_rr _) ?_
  refine q_callV hJ dX0_run_1 (q := 4) rfl (S_begin I R hFR) imX0_begin ln_X0_89 hk1 (by decide) rfl rfl rfl rfl (Nat.le_of_ble_eq_true rfl) (by decide) (by decide) rfl rfl (fun rv gv Iv Rv hv => ?_)
  obtain ⟨rfl, rfl, rfl, rfl⟩ := hv
  obtain ⟨Q, hE0⟩ := EX.zero hA
  have hF0 : FrE 60 I (up2 (up2 (up2 (up2 (up2 (up2 I 40 3 0) 1 3 0) 1 4 0) 1 5 0) 1 6 0) 1 7 (-1006)) := (((((((FrE.rf _ I).up (Or.inl (by omega))).up (Or.inl (by omega))).up (Or.inl (by omega))).up (Or.inl (by omega))).up (Or.inl (by omega))).up (Or.inl (by omega)))
  have h44 : (up2 (up2 (up2 (up2 (up2 (up2 I 40 3 0) 1 3 0) 1 4 0) 1 5 0) 1 6 0) 1 7 (-1006)) 44 = I 44 := by rw [up2_other _ _ _ _ (by decide), up2_other _ _ _ _ (by decide), up2_other _ _ _ _ (by decide), up2_other _ _ _ _ (by decide), up2_other _ _ _ _ (by decide), up2_other _ _ _ _ (by decide)]
  have hZ0 : FZ (up2 (up2 (up2 (up2 (up2 (up2 I 40 3 0) 1 3 0) 1 4 0) 1 5 0) 1 6 0) 1 7 (-1006)) := fun r hr => by rw [h44]; exact hZ r hr
  have himg0 : ∀ t, t < 4 → (up2 (up2 (up2 (up2 (up2 (up2 I 40 3 0) 1 3 0) 1 4 0) 1 5 0) 1 6 0) 1 7 (-1006)) (62 - 2 * 1) t = img t := fun t ht => by rw [show (up2 (up2 (up2 (up2 (up2 (up2 I 40 3 0) 1 3 0) 1 4 0) 1 5 0) 1 6 0) 1 7 (-1006)) (62 - 2 * 1) = I 60 from by rw [up2_other _ _ _ _ (by decide), up2_other _ _ _ _ (by decide), up2_other _ _ _ _ (by decide), up2_other _ _ _ _ (by decide), up2_other _ _ _ _ (by decide), up2_other _ _ _ _ (by decide)]]; exact himg t ht
  refine q_aload_n hJ dX0_run_4 (q := 5) rfl rfl (by first | rfl | exact isR_rr _) ?_
  refine q_iload_n hJ dX0_run_5 (q := 6) rfl rfl ?_
  refine q_aload_n hJ dX0_run_6 (q := 7) rfl rfl (by first | rfl | exact isR_rr _) ?_
  refine q_getR hJ dX0_run_7 (q := 10) rfl fl_X0_27 rfl hk1 (show R 1 1 = some (61 - 2 * 1) from hFR.2.2.1.2.1) rfl ?_
  refine q_sipush hJ (v := (-1006)) dX0_run_10 (q := 13) rfl (by decide) ?_
  refine q_callV hJ dX0_run_13 (q := 16) rfl (S_operA 7 1 (by omega) (by omega) [] Q ev (-1006) img (X0 A) _ R hFR hE0 (by show 0 ≤ 100; omega) (hL.keep hF0) (FlG.zero hZ0 _) himg0) imX0_operate ln_X0_92 hk1 (by decide) rfl rfl rfl rfl (Nat.le_of_ble_eq_true rfl) (rmOK (by decide) (by decide)) (by decide) rfl rfl (fun rv gv Iv Rv hv => ?_)
  obtain ⟨rfl, rfl, hE2, hF2, hR2, hFR2, hP2⟩ := hv
  change EX Q _ _ (XR ev img A) at hE2
  have hO2 := (XR_stb ev img A).2
  have hst2 := (XR_stb ev img A).1
  have hZ2 := hZ0.keep hP2
  have he2 := hFR2.2.2.1.1
  have hEn : EN Iv (XR ev img A) := hE2.2.2.2.2
  refine q_aload_n hJ dX0_run_16 (q := 17) rfl rfl (by first | rfl | exact isR_rr _) ?_
  refine q_getI hJ dX0_run_17 (q := 20) rfl fl_X0_96 rfl hk1 (show _ = xR (XR ev img A) from hE2.2.2.2.2.2.2.2.1) ?_
  refine q_if_eq hJ (tgt := 27) dX0_run_20 (q := 23) rfl (by decide) (fun c1 => ?_) (fun c1 => ?_)
  · refine q_aload_n hJ dX0_run_27 (q := 28) rfl rfl (by first | rfl | exact isR_rr _) ?_
    refine q_getR hJ dX0_run_28 (q := 31) rfl fl_X0_12 rfl hk1 he2 rfl ?_
    refine q_dup hJ dX0_run_31 (q := 32) rfl rfl ?_
    refine q_getI hJ dX0_run_32 (q := 35) rfl fl_X0_100 rfl hk2 (show _ = aS (xA (XR ev img A)) 2 from (by first | exact hE2.1 2 (by decide) | (simp [up2_app]; exact hE2.1 2 (by decide)))) ?_
    refine q_iconst hJ (v := 1) dX0_run_35 (q := 36) rfl (by decide) ?_
    refine q_iadd hJ dX0_run_36 (q := 37) rfl ?_
    refine q_putI hJ dX0_run_37 (q := 40) rfl fl_X0_100 rfl rfl hk2 rfl rfl ?_
    refine q_aload_n hJ dX0_run_40 (q := 41) rfl rfl (by first | rfl | exact isR_rr _) ?_
    refine q_getR hJ dX0_run_41 (q := 44) rfl fl_X0_12 rfl hk1 he2 rfl ?_
    refine q_dup hJ dX0_run_44 (q := 45) rfl rfl ?_
    refine q_getI hJ dX0_run_45 (q := 48) rfl fl_X0_103 rfl hk2 (show _ = aS (xA (XR ev img A)) 3 from (by first | exact hE2.1 3 (by decide) | (simp [up2_app]; exact hE2.1 3 (by decide)))) ?_
    refine q_aload_n hJ dX0_run_48 (q := 49) rfl rfl (by first | rfl | exact isR_rr _) ?_
    refine q_getI hJ dX0_run_49 (q := 52) rfl fl_X0_106 rfl hk1 (show _ = nI (xO (XR ev img A)) from (by first | exact hE2.2.2.2.2.1 | (simp [up2_app]; exact hE2.2.2.2.2.1))) ?_
    refine q_iadd hJ dX0_run_52 (q := 53) rfl ?_
    refine q_putI hJ dX0_run_53 (q := 56) rfl fl_X0_103 rfl rfl hk2 rfl rfl ?_
    refine q_aload_n hJ dX0_run_56 (q := 57) rfl rfl (by first | rfl | exact isR_rr _) ?_
    refine q_getR hJ dX0_run_57 (q := 60) rfl fl_X0_12 rfl hk1 he2 rfl ?_
    refine q_dup hJ dX0_run_60 (q := 61) rfl rfl ?_
    refine q_getI hJ dX0_run_61 (q := 64) rfl fl_X0_107 rfl hk2 (show _ = aS (xA (XR ev img A)) 4 from (by first | exact hE2.1 4 (by decide) | (simp [up2_app]; exact hE2.1 4 (by decide)))) ?_
    refine q_aload_n hJ dX0_run_64 (q := 65) rfl rfl (by first | rfl | exact isR_rr _) ?_
    refine q_getI hJ dX0_run_65 (q := 68) rfl fl_X0_110 rfl hk1 (show _ = xF (XR ev img A) from (by first | exact hE2.2.2.2.2.2.1 | (simp [up2_app]; exact hE2.2.2.2.2.2.1))) ?_
    refine q_iadd hJ dX0_run_68 (q := 69) rfl ?_
    refine q_putI hJ dX0_run_69 (q := 72) rfl fl_X0_107 rfl rfl hk2 rfl rfl ?_
    refine q_aload_n hJ dX0_run_72 (q := 73) rfl rfl (by first | rfl | exact isR_rr _) ?_
    refine q_getR hJ dX0_run_73 (q := 76) rfl fl_X0_12 rfl hk1 he2 rfl ?_
    refine q_aload_n hJ dX0_run_76 (q := 77) rfl rfl (by first | rfl | exact isR_rr _) ?_
    refine q_getR hJ dX0_run_77 (q := 80) rfl fl_X0_12 rfl hk1 he2 rfl ?_
    refine q_getI hJ dX0_run_80 (q := 83) rfl fl_X0_111 rfl hk2 (show _ = aS (xA (XR ev img A)) 5 from (by first | exact hE2.1 5 (by decide) | (simp [up2_app]; exact hE2.1 5 (by decide)))) ?_
    refine q_aload_n hJ dX0_run_83 (q := 84) rfl rfl (by first | rfl | exact isR_rr _) ?_
    refine q_getI hJ dX0_run_84 (q := 87) rfl fl_X0_114 rfl hk1 (show _ = xD (XR ev img A) from (by first | exact hE2.2.2.2.2.2.2.1 | (simp [up2_app]; exact hE2.2.2.2.2.2.2.1))) ?_
    refine q_max hJ dX0_run_87 (q := 90) rfl ln_X0_115 mw_max rfl (Nat.le_of_ble_eq_true rfl) (by decide) (by decide) ?_
    refine q_putI hJ dX0_run_90 (q := 93) rfl fl_X0_111 rfl rfl hk2 rfl rfl ?_
    refine q_aload_n hJ dX0_run_93 (q := 94) rfl rfl (by first | rfl | exact isR_rr _) ?_
    refine q_getI hJ dX0_run_94 (q := 97) rfl fl_X0_106 rfl hk1 (show _ = nI (xO (XR ev img A)) from (by first | exact hE2.2.2.2.2.1 | (simp [up2_app]; exact hE2.2.2.2.2.1))) ?_
    refine q_iret hM dX0_run_97 rfl rfl ?_
    refine ⟨by rw [runR, if_pos c1], rfl, ?_, ?_, ?_, hR2, hFR2, ?_⟩
    · rw [runA, if_pos c1]
      refine ⟨fun i hi => ?_, ?_, ?_, ?_⟩
      · have q := hE2.1
        rcases (show i = 0 ∨ i = 1 ∨ i = 2 ∨ i = 3 ∨ i = 4 ∨ i = 5 by omega) with rfl | rfl | rfl | rfl | rfl | rfl
        · simp [up2_app]; exact q 0 (by decide)
        · simp [up2_app]; exact q 1 (by decide)
        · simp [up2_app]; rfl
        · simp [up2_app]; rfl
        · simp [up2_app]; rfl
        · simp [up2_app]; rfl
      · exact hE2.2.1.agr (fun a q1 q2 => by rw [up2_other _ _ _ _ (by omega), up2_other _ _ _ _ (by omega), up2_other _ _ _ _ (by omega), up2_other _ _ _ _ (by omega)]) (Agr.rf _ _ _)
      · exact RulC.agr ⟨Q, hE2.2.2.1⟩ (fun a q1 q2 => by rw [up2_other _ _ _ _ (by omega), up2_other _ _ _ _ (by omega), up2_other _ _ _ _ (by omega), up2_other _ _ _ _ (by omega)]) (Agr.rf _ _ _)
      · exact hE2.2.2.2.1.agr (fun a q1 q2 => by rw [up2_other _ _ _ _ (by omega), up2_other _ _ _ _ (by omega), up2_other _ _ _ _ (by omega), up2_other _ _ _ _ (by omega)])
    · unfold EN at hEn ⊢
      rw [up2_other _ _ _ _ (by decide), up2_other _ _ _ _ (by decide), up2_other _ _ _ _ (by decide), up2_other _ _ _ _ (by decide)]
      exact hEn
    · exact (((((hF0.trans hF2).up (Or.inl (by omega))).up (Or.inl (by omega))).up (Or.inl (by omega))).up (Or.inl (by omega)))
    · intro r hr
      rw [up2_other _ _ _ _ (by decide), up2_other _ _ _ _ (by decide), up2_other _ _ _ _ (by decide), up2_other _ _ _ _ (by decide)]
      exact hZ2 r hr
  · refine q_sipush hJ (v := (-1005)) dX0_run_23 (q := 26) rfl (by decide) ?_
    refine q_iret hM dX0_run_26 rfl rfl ?_
    refine ⟨by rw [runR, if_neg c1], rfl, ?_, hEn, hF0.trans hF2, hR2, hFR2, hZ2⟩
    rw [runA, if_neg c1]
    exact hE2.cs

def insI (k z o t : Int32) : Nat → Int32 := fun j => if j = 0 then k else if j = 1 then z else if j = 2 then o else t
def updI (A : AS) (k f v : Int32) : Nat → Int32 := match fK A k with
  | none => fun _ => 0
  | some i => chgF (aK A i) f v
def dltI (A : AS) (k : Int32) : Nat → Int32 := match fK A k with
  | none => fun _ => 0
  | some i => aK A i
/-- a statement: its fault, or its run -/
def StPo (I : MI) (R : MR) (ft ev : Int32) (img : Nat → Int32) (A : AS) : Po := fun r g' I' R' => (¬ ft = 0 ∧ r = some (.int ft) ∧ g0 = g' ∧ I = I' ∧ R = R') ∨ (ft = 0 ∧ RuPo I R (XR ev img A) r g' I' R')
theorem RuPo.from {I I1 : MI} {R : MR} {X : XS} (hF : FrE 60 I I1) {r : Option Value} {g' : Geo} {I' : MI} {R' : MR} (h : RuPo I1 R X r g' I' R') : RuPo I R X r g' I' R' := by
  obtain ⟨h1, h2, h3, h4, h5, h6⟩ := h
  exact ⟨h1, h2, h3, h4, hF.trans h5, h6⟩
theorem upd_prep {A : AS} {k f v : Int32} (h : updF A k f v = 0) : prUp A k f v = some (updI A k f v) := by
  unfold updF at h
  unfold prUp updI
  rcases hf : fK A k with _ | i
  · rw [hf] at h; exact absurd (show (-1001 : Int32) = 0 from h) (by decide)
  · rw [hf] at h
    dsimp only at h ⊢
    split at h
    · exact absurd h (by decide)
    · split at h
      · exact absurd h (by decide)
      · split at h
        · exact absurd h (by decide)
        · rename_i h3
          rw [if_neg h3]
theorem dlt_prep {A : AS} {k : Int32} (h : dltF A k = 0) : prDel A k = some (dltI A k) := by
  unfold dltF at h
  unfold prDel dltI
  rcases hf : fK A k with _ | i
  · rw [hf] at h; exact absurd h (by decide)
  · rfl
theorem rwS_img (I : MI) (a : Nat) (k z o t : Int32) : ∀ f, f < 4 → rwS I a k z o t a f = insI k z o t f := by
  intro f hf
  rcases (show f = 0 ∨ f = 1 ∨ f = 2 ∨ f = 3 by omega) with rfl | rfl | rfl | rfl <;> simp [rwS, insI, up2_app]
theorem rwS_other {I : MI} {a b : Nat} (h : b ≠ a) (k z o t : Int32) : rwS I a k z o t b = I b := by
  unfold rwS
  rw [up2_other _ _ _ _ h, up2_other _ _ _ _ h, up2_other _ _ _ _ h, up2_other _ _ _ _ h]
set_option maxRecDepth 100000 in
set_option maxHeartbeats 400000 in
theorem S_runInsert (k z o t : Int32) (A : AS) (I : MI) (R : MR) (hFR : FR R) (hA : CS I R 2 A) (hL : Lv I) (hZ : FZ I) : Sp 36 0 0 mX0_runInsert [.ref 1, .int k, .int z, .int o, .int t] g0 I R (StPo I R (insF A k z o t) 0 (insI k z o t) A) := by
  have hk1 := ka1
  refine Sp.on (by decide +kernel) rfl rfl (fun J hM => ?_)
  have hJ := hM.ok
  refine q_aload_n hJ dX0_runInsert_0 (q := 1) rfl rfl (by first | rfl | exact isR_rr _) ?_
  refine q_iload_n hJ dX0_runInsert_1 (q := 2) rfl rfl ?_
  refine q_iload_n hJ dX0_runInsert_2 (q := 3) rfl rfl ?_
  refine q_iload_n hJ dX0_runInsert_3 (q := 4) rfl rfl ?_
  refine q_iload hJ dX0_runInsert_4 (q := 6) rfl rfl ?_
  refine q_callV hJ dX0_runInsert_6 (q := 9) rfl (S_insFault A k z o t I R hFR hA.2.1) imX0_insertFault ln_X0_59 hk1 (by decide) rfl rfl rfl rfl (Nat.le_of_ble_eq_true rfl) (by decide) (by decide) rfl rfl (fun rv gv Iv Rv hv => ?_)
  obtain ⟨rfl, rfl, rfl, rfl⟩ := hv
  refine q_istore hJ dX0_runInsert_9 (q := 11) rfl (by decide) ?_
  refine q_iload hJ dX0_runInsert_11 (q := 13) rfl rfl ?_
  refine q_if_eq hJ (tgt := 19) dX0_runInsert_13 (q := 16) rfl (by decide) (fun c1 => ?_) (fun c1 => ?_)
  · refine q_aload_n hJ dX0_runInsert_19 (q := 20) rfl rfl (by first | rfl | exact isR_rr _) ?_
    refine q_getR hJ dX0_runInsert_20 (q := 23) rfl fl_X0_27 rfl hk1 (show R 1 1 = some 59 from hFR.2.2.1.2.1) rfl ?_
    refine q_getR hJ dX0_runInsert_23 (q := 26) rfl fl_X0_63 rfl (kaL (d := 1) (by omega) (by omega)) (show R 59 2 = some 60 from lev_fr hFR (d := 1) (by omega) (by omega)) rfl ?_
    refine q_iload_n hJ dX0_runInsert_26 (q := 27) rfl rfl ?_
    refine q_iload_n hJ dX0_runInsert_27 (q := 28) rfl rfl ?_
    refine q_iload_n hJ dX0_runInsert_28 (q := 29) rfl rfl ?_
    refine q_iload hJ dX0_runInsert_29 (q := 31) rfl rfl ?_
    refine q_callV hJ dX0_runInsert_31 (q := 34) rfl (S_fill 60 k z o t I R (kaI (d := 1) (by omega) (by omega))) imX4_fill ln_X0_67 (kaI (d := 1) (by omega) (by omega)) (by decide) rfl rfl rfl rfl (Nat.le_of_ble_eq_true rfl) (by decide) (by decide) rfl rfl (fun rv gv Iv Rv hv => ?_)
    obtain ⟨rfl, rfl, rfl, rfl⟩ := hv
    have hOth : ∀ a, a ≠ 60 → rwS I 60 k z o t a = I a := fun a ha => rwS_other ha _ _ _ _
    have hIm := rwS_img I 60 k z o t
    refine q_aload_n hJ dX0_runInsert_34 (q := 35) rfl rfl (by first | rfl | exact isR_rr _) ?_
    refine q_iconst hJ (v := 0) dX0_runInsert_35 (q := 36) rfl (by decide) ?_
    refine q_callV hJ dX0_runInsert_36 (q := 39) rfl (S_run 0 (insI k z o t) A _ R hFR (hA.agr (fun a q1 q2 => hOth a (by omega)) (Agr.rf _ _ _)) (fun d q1 q2 => by rw [hOth _ (by omega)]; exact hL d q1 q2) (fun r hr => by rw [hOth _ (by omega)]; exact hZ r hr) hIm) imX0_run ln_X0_71 hk1 (by decide) rfl rfl rfl rfl (Nat.le_of_ble_eq_true rfl) (by decide) (by decide) rfl rfl (fun rv gv Iv Rv hv => ?_)
    obtain ⟨rfl, hv2⟩ := hv
    refine q_iret hM dX0_runInsert_39 rfl rfl ?_
    exact Or.inr ⟨c1, RuPo.from (fun a ha => hOth a (by omega)) ⟨rfl, hv2⟩⟩
  · refine q_iload hJ dX0_runInsert_16 (q := 18) rfl rfl ?_
    refine q_iret hM dX0_runInsert_18 rfl rfl ?_
    exact Or.inl ⟨c1, rfl, rfl, rfl, rfl⟩

set_option maxRecDepth 100000 in
set_option maxHeartbeats 400000 in
theorem S_runUpdate (k f v : Int32) (A : AS) (I : MI) (R : MR) (hFR : FR R) (hA : CS I R 2 A) (hL : Lv I) (hZ : FZ I) : Sp 36 0 0 mX0_runUpdate [.ref 1, .int k, .int f, .int v] g0 I R (StPo I R (updF A k f v) 1 (updI A k f v) A) := by
  have hk1 := ka1
  refine Sp.on (by decide +kernel) rfl rfl (fun J hM => ?_)
  have hJ := hM.ok
  refine q_aload_n hJ dX0_runUpdate_0 (q := 1) rfl rfl (by first | rfl | exact isR_rr _) ?_
  refine q_iload_n hJ dX0_runUpdate_1 (q := 2) rfl rfl ?_
  refine q_iload_n hJ dX0_runUpdate_2 (q := 3) rfl rfl ?_
  refine q_iload_n hJ dX0_runUpdate_3 (q := 4) rfl rfl ?_
  refine q_callV hJ dX0_runUpdate_4 (q := 7) rfl (S_updFault A k f v I R hFR hA.2.1) imX0_updateFault ln_X0_74 hk1 (by decide) rfl rfl rfl rfl (Nat.le_of_ble_eq_true rfl) (by decide) (by decide) rfl rfl (fun rv gv Iv Rv hv => ?_)
  obtain ⟨rfl, rfl, rfl, rfl⟩ := hv
  refine q_istore hJ dX0_runUpdate_7 (q := 9) rfl (by decide) ?_
  refine q_iload hJ dX0_runUpdate_9 (q := 11) rfl rfl ?_
  refine q_if_eq hJ (tgt := 17) dX0_runUpdate_11 (q := 14) rfl (by decide) (fun c1 => ?_) (fun c1 => ?_)
  · refine q_aload_n hJ dX0_runUpdate_17 (q := 18) rfl rfl (by first | rfl | exact isR_rr _) ?_
    refine q_aload_n hJ dX0_runUpdate_18 (q := 19) rfl rfl (by first | rfl | exact isR_rr _) ?_
    refine q_getR hJ dX0_runUpdate_19 (q := 22) rfl fl_X0_27 rfl hk1 (show R 1 1 = some 59 from hFR.2.2.1.2.1) rfl ?_
    refine q_getR hJ dX0_runUpdate_22 (q := 25) rfl fl_X0_63 rfl (kaL (d := 1) (by omega) (by omega)) (show R 59 2 = some 60 from lev_fr hFR (d := 1) (by omega) (by omega)) rfl ?_
    refine q_iload_n hJ dX0_runUpdate_25 (q := 26) rfl rfl ?_
    refine q_iload_n hJ dX0_runUpdate_26 (q := 27) rfl rfl ?_
    refine q_iload_n hJ dX0_runUpdate_27 (q := 28) rfl rfl ?_
    refine q_callV hJ dX0_runUpdate_28 (q := 31) rfl (S_prepUpd A 60 k f v I R hFR hA.2.1 (kaI (d := 1) (by omega) (by omega))) imX0_prepareUpdate ln_X0_78 hk1 (by decide) rfl rfl rfl rfl (Nat.le_of_ble_eq_true rfl) (by decide) (by decide) rfl rfl (fun rv gv Iv Rv hv => ?_)
    obtain ⟨rfl, rfl, hOth, hc⟩ := hv
    rcases hc with ⟨ho, -⟩ | ⟨img2, ho, rfl, hIm⟩
    · rw [upd_prep c1] at ho; cases ho
    rw [upd_prep c1] at ho
    obtain rfl := Option.some.inj ho
    refine q_pop hJ dX0_runUpdate_31 (q := 32) rfl rfl ?_
    refine q_aload_n hJ dX0_runUpdate_32 (q := 33) rfl rfl (by first | rfl | exact isR_rr _) ?_
    refine q_iconst hJ (v := 1) dX0_runUpdate_33 (q := 34) rfl (by decide) ?_
    refine q_callV hJ dX0_runUpdate_34 (q := 37) rfl (S_run 1 (updI A k f v) A _ R hFR (hA.agr (fun a q1 q2 => hOth a (by omega)) (Agr.rf _ _ _)) (fun d q1 q2 => by rw [hOth _ (by omega)]; exact hL d q1 q2) (fun r hr => by rw [hOth _ (by omega)]; exact hZ r hr) hIm) imX0_run ln_X0_71 hk1 (by decide) rfl rfl rfl rfl (Nat.le_of_ble_eq_true rfl) (by decide) (by decide) rfl rfl (fun rv gv Iv Rv hv => ?_)
    obtain ⟨rfl, hv2⟩ := hv
    refine q_iret hM dX0_runUpdate_37 rfl rfl ?_
    exact Or.inr ⟨c1, RuPo.from (fun a ha => hOth a (by omega)) ⟨rfl, hv2⟩⟩
  · refine q_iload hJ dX0_runUpdate_14 (q := 16) rfl rfl ?_
    refine q_iret hM dX0_runUpdate_16 rfl rfl ?_
    exact Or.inl ⟨c1, rfl, rfl, rfl, rfl⟩

set_option maxRecDepth 100000 in
set_option maxHeartbeats 400000 in
theorem S_runDelete (k : Int32) (A : AS) (I : MI) (R : MR) (hFR : FR R) (hA : CS I R 2 A) (hL : Lv I) (hZ : FZ I) : Sp 36 0 0 mX0_runDelete [.ref 1, .int k] g0 I R (StPo I R (dltF A k) 2 (dltI A k) A) := by
  have hk1 := ka1
  refine Sp.on (by decide +kernel) rfl rfl (fun J hM => ?_)
  have hJ := hM.ok
  refine q_aload_n hJ dX0_runDelete_0 (q := 1) rfl rfl (by first | rfl | exact isR_rr _) ?_
  refine q_iload_n hJ dX0_runDelete_1 (q := 2) rfl rfl ?_
  refine q_callV hJ dX0_runDelete_2 (q := 5) rfl (S_delFault A k I R hFR hA.2.1) imX0_deleteFault ln_X0_82 hk1 (by decide) rfl rfl rfl rfl (Nat.le_of_ble_eq_true rfl) (by decide) (by decide) rfl rfl (fun rv gv Iv Rv hv => ?_)
  obtain ⟨rfl, rfl, rfl, rfl⟩ := hv
  refine q_istore_n hJ dX0_runDelete_5 (q := 6) rfl (by decide) ?_
  refine q_iload_n hJ dX0_runDelete_6 (q := 7) rfl rfl ?_
  refine q_if_eq hJ (tgt := 12) dX0_runDelete_7 (q := 10) rfl (by decide) (fun c1 => ?_) (fun c1 => ?_)
  · refine q_aload_n hJ dX0_runDelete_12 (q := 13) rfl rfl (by first | rfl | exact isR_rr _) ?_
    refine q_aload_n hJ dX0_runDelete_13 (q := 14) rfl rfl (by first | rfl | exact isR_rr _) ?_
    refine q_getR hJ dX0_runDelete_14 (q := 17) rfl fl_X0_27 rfl hk1 (show R 1 1 = some 59 from hFR.2.2.1.2.1) rfl ?_
    refine q_getR hJ dX0_runDelete_17 (q := 20) rfl fl_X0_63 rfl (kaL (d := 1) (by omega) (by omega)) (show R 59 2 = some 60 from lev_fr hFR (d := 1) (by omega) (by omega)) rfl ?_
    refine q_iload_n hJ dX0_runDelete_20 (q := 21) rfl rfl ?_
    refine q_callV hJ dX0_runDelete_21 (q := 24) rfl (S_prepDel A 60 k I R hFR hA.2.1 (kaI (d := 1) (by omega) (by omega))) imX0_prepareDelete ln_X0_85 hk1 (by decide) rfl rfl rfl rfl (Nat.le_of_ble_eq_true rfl) (by decide) (by decide) rfl rfl (fun rv gv Iv Rv hv => ?_)
    obtain ⟨rfl, rfl, hOth, hc⟩ := hv
    rcases hc with ⟨ho, -⟩ | ⟨img2, ho, rfl, hIm⟩
    · rw [dlt_prep c1] at ho; cases ho
    rw [dlt_prep c1] at ho
    obtain rfl := Option.some.inj ho
    refine q_pop hJ dX0_runDelete_24 (q := 25) rfl rfl ?_
    refine q_aload_n hJ dX0_runDelete_25 (q := 26) rfl rfl (by first | rfl | exact isR_rr _) ?_
    refine q_iconst hJ (v := 2) dX0_runDelete_26 (q := 27) rfl (by decide) ?_
    refine q_callV hJ dX0_runDelete_27 (q := 30) rfl (S_run 2 (dltI A k) A _ R hFR (hA.agr (fun a q1 q2 => hOth a (by omega)) (Agr.rf _ _ _)) (fun d q1 q2 => by rw [hOth _ (by omega)]; exact hL d q1 q2) (fun r hr => by rw [hOth _ (by omega)]; exact hZ r hr) hIm) imX0_run ln_X0_71 hk1 (by decide) rfl rfl rfl rfl (Nat.le_of_ble_eq_true rfl) (by decide) (by decide) rfl rfl (fun rv gv Iv Rv hv => ?_)
    obtain ⟨rfl, hv2⟩ := hv
    refine q_iret hM dX0_runDelete_30 rfl rfl ?_
    exact Or.inr ⟨c1, RuPo.from (fun a ha => hOth a (by omega)) ⟨rfl, hv2⟩⟩
  · refine q_iload_n hJ dX0_runDelete_10 (q := 11) rfl rfl ?_
    refine q_iret hM dX0_runDelete_11 rfl rfl ?_
    exact Or.inl ⟨c1, rfl, rfl, rfl, rfl⟩

