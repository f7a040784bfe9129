/-! THE WHOLE OBJECT, and its statements -/
def okA (A : AS) : Prop := okU (aU A) (aM A)
def CYB (I : MI) (R : MR) (A : AS) (hs : Nat → AS) (h : Nat) (sn : AS) (kp : Bool) (tx : Nat → Int32) (tn : Nat) (B : AS) : Prop :=
  FR R ∧ Lv I ∧ FZ I ∧ CS I R 2 A ∧ CS I R 61 B ∧ CS I R 103 sn ∧ I 0 3 = (if kp = true then 1 else 0) ∧ HC I R hs h ∧ TW I tx tn ∧ okA A ∧ okA B ∧ okA sn ∧ ∀ j, j < 4 → okA (hs j)
def CyP (v : Int32) (I : MI) (X : MI → MR → Prop) : Po := fun r g' I' R' => r = some (.int v) ∧ g0 = g' ∧ X I' R' ∧ ∀ a, 317 ≤ a → I' a = I a
theorem ka_x : KA g0 0 10 0 := ka0 (by decide)
theorem isB61 : isB 61 := Or.inr (Or.inl rfl)
theorem isB103 : isB 103 := Or.inr (Or.inr (Or.inl rfl))
theorem HC.agr {I I' : MI} {R R' : MR} {hs : Nat → AS} {h : Nat} (H : HC I R hs h) (h1 : Agr I I' 145 315) (h2 : Agr R R' 145 315) : HC I' R' hs h := by
  obtain ⟨e1, e2, S, e3, e4⟩ := H
  refine ⟨by rw [h1 145 (by omega) (by omega)]; exact e1, e2, S, fun j hj => by rw [h2 146 (by omega) (by omega)]; exact e3 j hj, fun j hj => ?_⟩
  have := (e3 j hj).2.1.in
  exact (e4 j hj).agr (fun a q1 q2 => h1 a (by omega) (by omega)) (fun a q1 q2 => h2 a (by omega) (by omega))
theorem TW.agr {I I' : MI} {tx : Nat → Int32} {n : Nat} (h : TW I tx n) (h1 : Agr I I' 315 317) : TW I' tx n := by
  unfold TW at h ⊢
  rw [h1 315 (by omega) (by omega), h1 316 (by omega) (by omega)]
  exact h
theorem TX.agr {I I' : MI} {tx : Nat → Int32} {n : Nat} {P : PS} (h : TX I tx n P) (h1 : Agr I I' 315 317) : TX I' tx n P := by
  unfold TX at h ⊢
  rw [h1 315 (by omega) (by omega), h1 316 (by omega) (by omega)]
  exact h
theorem TF.agr {I I' : MI} {F : Nat → Int32} (h : TF I F) (h1 : Agr I I' 315 317) : TF I' F := fun k q1 q2 => by rw [h1 315 (by omega) (by omega)]; exact h k q1 q2
theorem CYB.put2 {I I' : MI} {R R' : MR} {A A' : AS} {hs : Nat → AS} {h : Nat} {sn : AS} {kp : Bool} {tx : Nat → Int32} {tn : Nat} {B : AS} (H : CYB I R A hs h sn kp tx tn B) (hA : CS I' R' 2 A') (ok : okA A') (hF : FrE 60 I I') (hR : Out R R' 4 5) (hFR : FR R') (hZ : FZ I') : CYB I' R' A' hs h sn kp tx tn B := by
  obtain ⟨e1, e2, e3, e4, e5, e6, e7, e8, e9, e10, e11, e12, e13⟩ := H
  have ag : ∀ lo hi, 61 ≤ lo → Agr I I' lo hi := fun lo hi q a q1 q2 => hF a (Or.inr ⟨by omega, Or.inr (by omega)⟩)
  have aR : ∀ lo hi, 5 ≤ lo → Agr R R' lo hi := fun lo hi q a q1 q2 => hR a (by omega)
  exact ⟨hFR, e2.keep hF, hZ, hA, e5.agr (ag _ _ (by omega)) (aR _ _ (by omega)), e6.agr (ag _ _ (by omega)) (aR _ _ (by omega)), by rw [hF 0 (Or.inl rfl)]; exact e7, e8.agr (ag _ _ (by omega)) (aR _ _ (by omega)), e9.agr (ag _ _ (by omega)), ok, e11, e12, e13⟩
theorem Lv.out {I I' : MI} {lo hi : Nat} (h : Lv I) (hO : Out I I' lo hi) (hl : hi ≤ 45 ∨ 60 ≤ lo) : Lv I' := fun d h1 h8 => by rw [hO _ (by omega)]; exact h d h1 h8
theorem FZ.out {I I' : MI} {lo hi : Nat} (h : FZ I) (hO : Out I I' lo hi) (hl : hi ≤ 44 ∨ 45 ≤ lo) : FZ I' := fun r hr => by rw [hO 44 (by omega)]; exact h r hr
theorem CYB.put61 {I I' : MI} {R : MR} {A : AS} {hs : Nat → AS} {h : Nat} {sn : AS} {kp : Bool} {tx : Nat → Int32} {tn : Nat} {B B' : AS} (H : CYB I R A hs h sn kp tx tn B) (hB : CS I' R 61 B') (ok : okA B') (hO : Out I I' 61 (61 + 42)) : CYB I' R A hs h sn kp tx tn B' := by
  obtain ⟨e1, e2, e3, e4, e5, e6, e7, e8, e9, e10, e11, e12, e13⟩ := H
  exact ⟨e1, e2.out hO (by omega), e3.out hO (by omega), e4.agr (hO.agr (by omega)) (Agr.rf _ _ _), hB, e6.agr (hO.agr (by omega)) (Agr.rf _ _ _), by rw [hO 0 (by omega)]; exact e7, e8.agr (hO.agr (by omega)) (Agr.rf _ _ _), e9.agr (hO.agr (by omega)), e10, ok, e12, e13⟩
theorem CYB.put103 {I I' : MI} {R : MR} {A : AS} {hs : Nat → AS} {h : Nat} {sn sn' : AS} {kp : Bool} {tx : Nat → Int32} {tn : Nat} {B : AS} (H : CYB I R A hs h sn kp tx tn B) (hB : CS I' R 103 sn') (ok : okA sn') (hO : Out I I' 103 (103 + 42)) : CYB I' R A hs h sn' kp tx tn B := by
  obtain ⟨e1, e2, e3, e4, e5, e6, e7, e8, e9, e10, e11, e12, e13⟩ := H
  exact ⟨e1, e2.out hO (by omega), e3.out hO (by omega), e4.agr (hO.agr (by omega)) (Agr.rf _ _ _), e5.agr (hO.agr (by omega)) (Agr.rf _ _ _), hB, by rw [hO 0 (by omega)]; exact e7, e8.agr (hO.agr (by omega)) (Agr.rf _ _ _), e9.agr (hO.agr (by omega)), e10, e11, ok, e13⟩
theorem CYB.st2 {I I' : MI} {R : MR} {A A' : AS} {hs : Nat → AS} {h : Nat} {sn : AS} {kp : Bool} {tx : Nat → Int32} {tn : Nat} {B : AS} (H : CYB I R A hs h sn kp tx tn B) (hA : CS I' R 2 A') (ok : okA A') (hO : Out I I' 2 (2 + 42)) : CYB I' R A' hs h sn kp tx tn B :=
  H.put2 hA ok (fun a ha => hO a (by omega)) (Out.rf _ _ _) H.1 (H.2.2.1.out hO (by omega))
theorem CYB.putH {I I' : MI} {R R' : MR} {A : AS} {hs hs' : Nat → AS} {h h' : Nat} {sn : AS} {kp : Bool} {tx : Nat → Int32} {tn : Nat} {B : AS} (H : CYB I R A hs h sn kp tx tn B) (hH : HC I' R' hs' h') (ok : ∀ j, j < 4 → okA (hs' j)) (hO : Out I I' 145 315) (hR : Out R R' 146 147) (hFR : FR R') : CYB I' R' A hs' h' sn kp tx tn B := by
  obtain ⟨e1, e2, e3, e4, e5, e6, e7, e8, e9, e10, e11, e12, e13⟩ := H
  exact ⟨hFR, e2.out hO (by omega), e3.out hO (by omega), e4.agr (hO.agr (by omega)) (hR.agr (by omega)), e5.agr (hO.agr (by omega)) (hR.agr (by omega)), e6.agr (hO.agr (by omega)) (hR.agr (by omega)), by rw [hO 0 (by omega)]; exact e7, hH, e9.agr (hO.agr (by omega)), e10, e11, e12, ok⟩
theorem pushH_ok {hs : Nat → AS} {h : Nat} {A : AS} (ok : ∀ j, j < 4 → okA (hs j)) (hA : okA A) : ∀ j, j < 4 → okA (pushH hs h A j) := by
  intro j hj
  unfold pushH
  split
  · show okA (if j = h then A else hs j)
    split
    · exact hA
    · exact ok j hj
  · show okA (if j = 3 then A else rotS hs j)
    split
    · exact hA
    · unfold rotS
      split
      · exact ok _ (by omega)
      · exact ok 0 (by omega)
theorem okA_stb {X X' : XS} (h : Stb X X') (ok : okA (xA X)) : okA (xA X') := fun j hj => by
  rw [h.1 j 10 (by decide)]
  exact ok j (by rw [← h.2.1]; exact hj)
theorem run_ok {ev : Int32} {img : Nat → Int32} {A : AS} (ok : okA A) : okA (runA (XR ev img A)) := by
  have h := okA_stb (XR_stb ev img A).1 (X := X0 A) ok
  unfold runA
  split
  · exact h
  · exact h
theorem insF_neg (A : AS) (k z o t : Int32) : insF A k z o t = 0 ∨ insF A k z o t < 0 := by
  unfold insF
  repeat' split
  all_goals first | exact Or.inl rfl | exact Or.inr (by decide)
theorem updF_neg (A : AS) (k f v : Int32) : updF A k f v = 0 ∨ updF A k f v < 0 := by
  unfold updF
  split
  · exact Or.inr (by decide)
  · repeat' split
    all_goals first | exact Or.inl rfl | exact Or.inr (by decide)
theorem dltF_neg (A : AS) (k : Int32) : dltF A k = 0 ∨ dltF A k < 0 := by
  unfold dltF
  split
  · exact Or.inl rfl
  · exact Or.inr (by decide)
set_option maxRecDepth 100000 in
set_option maxHeartbeats 400000 in
theorem S_settle (A : AS) (hs : Nat → AS) (h : Nat) (sn : AS) (kp : Bool) (tx : Nat → Int32) (tn : Nat) (B : AS) (ans : Int32) (I : MI) (R : MR) (H : CYB I R A hs h sn kp tx tn B) : Sp 36 0 0 mX10_settle [.ref 0, .int ans] g0 I R (CyP ans I (fun I' R' => if ans < 0 then CYB I' R' B hs h sn kp tx tn B else CYB I' R' A (pushH hs h B) (pushN h) sn kp tx tn B)) := by
  have hFR := H.1
  have hk1 := ka1
  have hk2 := ka_sta isB2
  have hkt := ka_tbl isB2
  have hkr := ka_rls isB2
  have hkg := ka_log isB2
  have hk145 := ka145
  have hk315 := ka315
  have hx0 := hFR.2.1.1
  have hx1 := hFR.2.1.2.1
  have hx2 := hFR.2.1.2.2.1
  have hx4 := hFR.2.1.2.2.2.1
  have hx5 := hFR.2.1.2.2.2.2
  have he0 := hFR.2.2.1.1
  have hs0 : R 2 0 = some (2 + 1) := (hFR.1 2 isB2).1
  have hs1 : R 2 1 = some (2 + 23) := (hFR.1 2 isB2).2.1
  have hs2 : R 2 2 = some (2 + 38) := (hFR.1 2 isB2).2.2.1
  refine Sp.on (by decide +kernel) rfl rfl (fun J hM => ?_)
  have hJ := hM.ok
  refine q_iload_n hJ dX10_settle_0 (q := 1) rfl rfl ?_
  refine q_if_ge hJ (tgt := 21) dX10_settle_1 (q := 4) rfl (by decide) (fun c1 => ?_) (fun c1 => ?_)
  · refine q_aload_n hJ dX10_settle_21 (q := 22) rfl rfl (by first | rfl | exact isR_rr _) ?_
    refine q_getR hJ dX10_settle_22 (q := 25) rfl fl_X10_29 rfl (by first | assumption | exact ka_x) (by assumption) rfl ?_
    refine q_aload_n hJ dX10_settle_25 (q := 26) rfl rfl (by first | rfl | exact isR_rr _) ?_
    refine q_getR hJ dX10_settle_26 (q := 29) rfl fl_X10_19 rfl (by first | assumption | exact ka_x) (by assumption) rfl ?_
    refine q_callV hJ dX10_settle_29 (q := 32) rfl (S_push 61 h hs B I R hFR H.2.2.2.2.2.2.2.1 isB61 (by decide) H.2.2.2.2.1 H.2.2.2.2.2.2.2.2.2.2.1) imX2_push ln_X10_71 hk145 (by decide) rfl rfl rfl rfl (Nat.le_of_ble_eq_true rfl) (by decide) (by decide) rfl rfl (fun rv gv Iv Rv hv => ?_)
    obtain ⟨rfl, rfl, hX, hO, hR, hF⟩ := hv
    have hH2 := H.putH hX (pushH_ok H.2.2.2.2.2.2.2.2.2.2.2.2 H.2.2.2.2.2.2.2.2.2.2.1) hO hR hF
    have hM2 : ∀ a, 317 ≤ a → Iv a = I a := fun a ha => hO a (by omega)
    refine q_iload_n hJ dX10_settle_32 (q := 33) rfl rfl ?_
    refine q_iret hM dX10_settle_33 rfl rfl ?_
    refine ⟨rfl, rfl, ?_, hM2⟩
    dsimp only
    first | (rw [if_pos (Int32.not_le.mp c1)]; exact hH2) | (rw [if_neg (Int32.not_lt.mpr c1)]; exact hH2)
  · refine q_aload_n hJ dX10_settle_4 (q := 5) rfl rfl (by first | rfl | exact isR_rr _) ?_
    refine q_getR hJ dX10_settle_5 (q := 8) rfl fl_X10_10 rfl (by first | assumption | exact ka_x) (by assumption) rfl ?_
    refine q_getR hJ dX10_settle_8 (q := 11) rfl fl_X10_58 rfl (by first | assumption | exact ka_x) (by assumption) rfl ?_
    refine q_aload_n hJ dX10_settle_11 (q := 12) rfl rfl (by first | rfl | exact isR_rr _) ?_
    refine q_getR hJ dX10_settle_12 (q := 15) rfl fl_X10_19 rfl (by first | assumption | exact ka_x) (by assumption) rfl ?_
    refine q_callV hJ dX10_settle_15 (q := 18) rfl (S_stateCopy 2 61 A B I R isB2 isB61 (by decide) hFR H.2.2.2.1 H.2.2.2.2.1 H.2.2.2.2.2.2.2.2.2.2.1) imX7_copyFrom ln_X10_114 hk2 (by decide) rfl rfl rfl rfl (Nat.le_of_ble_eq_true rfl) (by decide) (by decide) rfl rfl (fun rv gv Iv Rv hv => ?_)
    obtain ⟨rfl, rfl, rfl, hX, hO⟩ := hv
    have hH2 : CYB Iv R B hs h sn kp tx tn B := H.st2 hX H.2.2.2.2.2.2.2.2.2.2.1 hO
    have hM2 : ∀ a, 317 ≤ a → Iv a = I a := fun a ha => hO a (by omega)
    refine q_goto hJ (tgt := 32) dX10_settle_18 (by decide) ?_
    refine q_iload_n hJ dX10_settle_32 (q := 33) rfl rfl ?_
    refine q_iret hM dX10_settle_33 rfl rfl ?_
    refine ⟨rfl, rfl, ?_, hM2⟩
    dsimp only
    first | (rw [if_pos (Int32.not_le.mp c1)]; exact hH2) | (rw [if_neg (Int32.not_lt.mpr c1)]; exact hH2)

/-- what a statement answers, and the object behind it -/
def stR (ft ev : Int32) (img : Nat → Int32) (A : AS) : Int32 := if ft = 0 then runR (XR ev img A) else ft
def stOk (ft ev : Int32) (img : Nat → Int32) (A : AS) : Prop := ft = 0 ∧ xR (XR ev img A) = 0
theorem runR_neg {ev : Int32} {img : Nat → Int32} {A : AS} : runR (XR ev img A) < 0 ↔ ¬ xR (XR ev img A) = 0 := by
  unfold runR
  by_cases h : xR (XR ev img A) = 0
  · rw [if_pos h]
    have := (XR_stb ev img A).2
    exact ⟨fun z => absurd z (nI_pos (by omega)), fun z => absurd h z⟩
  · rw [if_neg h]
    exact ⟨fun _ => h, fun _ => by decide⟩
def SCy (I' : MI) (R' : MR) (ok : Prop) (A A2 : AS) (hs : Nat → AS) (h : Nat) (sn : AS) (kp : Bool) (tx : Nat → Int32) (tn : Nat) : Prop := (ok ∧ CYB I' R' A2 (pushH hs h A) (pushN h) sn kp tx tn A) ∨ (¬ ok ∧ CYB I' R' A hs h sn kp tx tn A)
set_option maxRecDepth 100000 in
set_option maxHeartbeats 400000 in
theorem S_insert (k z o t : Int32) (A : AS) (hs : Nat → AS) (h : Nat) (sn : AS) (kp : Bool) (tx : Nat → Int32) (tn : Nat) (B : AS) (I : MI) (R : MR) (H : CYB I R A hs h sn kp tx tn B) : Sp 37 0 0 mX10_insert [.ref 0, .int k, .int z, .int o, .int t] g0 I R (CyP (stR (insF A k z o t) 0 (insI k z o t) A) I (fun I' R' => SCy I' R' (stOk (insF A k z o t) 0 (insI k z o t) A) A (finA (XR 0 (insI k z o t) A)) hs h sn kp tx tn)) := by
  have hFR := H.1
  have hk1 := ka1
  have hk2 := ka_sta isB2
  have hkt := ka_tbl isB2
  have hkr := ka_rls isB2
  have hkg := ka_log isB2
  have hk145 := ka145
  have hk315 := ka315
  have hx0 := hFR.2.1.1
  have hx1 := hFR.2.1.2.1
  have hx2 := hFR.2.1.2.2.1
  have hx4 := hFR.2.1.2.2.2.1
  have hx5 := hFR.2.1.2.2.2.2
  have he0 := hFR.2.2.1.1
  have hs0 : R 2 0 = some (2 + 1) := (hFR.1 2 isB2).1
  have hs1 : R 2 1 = some (2 + 23) := (hFR.1 2 isB2).2.1
  have hs2 : R 2 2 = some (2 + 38) := (hFR.1 2 isB2).2.2.1
  refine Sp.on (by decide +kernel) rfl rfl (fun J hM => ?_)
  have hJ := hM.ok
  refine q_aload_n hJ dX10_insert_0 (q := 1) rfl rfl (by first | rfl | exact isR_rr _) ?_
  refine q_getR hJ dX10_insert_1 (q := 4) rfl fl_X10_19 rfl (by first | assumption | exact ka_x) (by assumption) rfl ?_
  refine q_aload_n hJ dX10_insert_4 (q := 5) rfl rfl (by first | rfl | exact isR_rr _) ?_
  refine q_getR hJ dX10_insert_5 (q := 8) rfl fl_X10_10 rfl (by first | assumption | exact ka_x) (by assumption) rfl ?_
  refine q_getR hJ dX10_insert_8 (q := 11) rfl fl_X10_58 rfl (by first | assumption | exact ka_x) (by assumption) rfl ?_
  refine q_callV hJ dX10_insert_11 (q := 14) rfl (S_stateCopy 61 2 B A I R isB61 isB2 (by decide) hFR H.2.2.2.2.1 H.2.2.2.1 H.2.2.2.2.2.2.2.2.2.1) imX7_copyFrom ln_X10_114 (ka_sta isB61) (by decide) rfl rfl rfl rfl (Nat.le_of_ble_eq_true rfl) (by decide) (by decide) rfl rfl (fun rv gv Iv Rv hv => ?_)
  obtain ⟨rfl, rfl, rfl, hX, hO⟩ := hv
  have H1 : CYB Iv R A hs h sn kp tx tn A := H.put61 hX H.2.2.2.2.2.2.2.2.2.1 hO
  have hM1 : ∀ a, 317 ≤ a → Iv a = I a := fun a ha => hO a (by omega)
  refine q_aload_n hJ dX10_insert_14 (q := 15) rfl rfl (by first | rfl | exact isR_rr _) ?_
  refine q_aload_n hJ dX10_insert_15 (q := 16) rfl rfl (by first | rfl | exact isR_rr _) ?_
  refine q_getR hJ dX10_insert_16 (q := 19) rfl fl_X10_10 rfl (by first | assumption | exact ka_x) (by assumption) rfl ?_
  refine q_iload_n hJ dX10_insert_19 (q := 20) rfl rfl ?_
  refine q_iload_n hJ dX10_insert_20 (q := 21) rfl rfl ?_
  refine q_iload_n hJ dX10_insert_21 (q := 22) rfl rfl ?_
  refine q_iload hJ dX10_insert_22 (q := 24) rfl rfl ?_
  refine q_callV hJ dX10_insert_24 (q := 27) rfl (S_runInsert k z o t A _ R hFR H1.2.2.2.1 H1.2.1 H1.2.2.1) imX0_runInsert ln_X10_117 hk1 (by decide) rfl rfl rfl rfl (Nat.le_of_ble_eq_true rfl) (by decide) (by decide) rfl rfl (fun rv gv Iv Rv hv => ?_)
  rcases hv with ⟨hft, rfl, rfl, rfl, rfl⟩ | ⟨hft, rfl, rfl, hA2, hEn, hF, hR2, hFR2, hZ2⟩
  · refine q_callV hJ dX10_insert_27 (q := 30) rfl (S_settle A hs h sn kp tx tn A (insF A k z o t) _ _ H1) imX10_settle ln_X10_121 (by first | assumption | exact ka_x) (by decide) rfl rfl rfl rfl (Nat.le_of_ble_eq_true rfl) (by decide) (by decide) rfl rfl (fun rv gv Iv Rv hv => ?_)
    obtain ⟨rfl, rfl, hX3, hM3⟩ := hv
    refine q_iret hM dX10_insert_30 rfl rfl ?_
    refine ⟨by rw [stR, if_neg hft], rfl, ?_, fun a ha => by rw [hM3 a ha, hM1 a ha]⟩
    rw [if_pos ((insF_neg A k z o t).resolve_left hft)] at hX3
    exact Or.inr ⟨fun z => hft z.1, hX3⟩
  · have H2 := H1.put2 hA2 (run_ok H1.2.2.2.2.2.2.2.2.2.1) hF hR2 hFR2 hZ2
    refine q_callV hJ dX10_insert_27 (q := 30) rfl (S_settle (runA (XR 0 (insI k z o t) A)) hs h sn kp tx tn A (runR (XR 0 (insI k z o t) A)) _ _ H2) imX10_settle ln_X10_121 (by first | assumption | exact ka_x) (by decide) rfl rfl rfl rfl (Nat.le_of_ble_eq_true rfl) (by decide) (by decide) rfl rfl (fun rv gv Iv Rv hv => ?_)
    obtain ⟨rfl, rfl, hX3, hM3⟩ := hv
    refine q_iret hM dX10_insert_30 rfl rfl ?_
    refine ⟨by rw [stR, if_pos hft], rfl, ?_, fun a ha => by rw [hM3 a ha, hF a (Or.inr ⟨by omega, Or.inr (by omega)⟩), hM1 a ha]⟩
    by_cases hr : xR (XR 0 (insI k z o t) A) = 0
    · rw [if_neg (fun z => runR_neg.mp z hr), runA, if_pos hr] at hX3
      exact Or.inl ⟨⟨hft, hr⟩, hX3⟩
    · rw [if_pos (runR_neg.mpr hr)] at hX3
      exact Or.inr ⟨fun z => hr z.2, hX3⟩

set_option maxRecDepth 100000 in
set_option maxHeartbeats 400000 in
theorem S_update (k f v : Int32) (A : AS) (hs : Nat → AS) (h : Nat) (sn : AS) (kp : Bool) (tx : Nat → Int32) (tn : Nat) (B : AS) (I : MI) (R : MR) (H : CYB I R A hs h sn kp tx tn B) : Sp 37 0 0 mX10_update [.ref 0, .int k, .int f, .int v] g0 I R (CyP (stR (updF A k f v) 1 (updI A k f v) A) I (fun I' R' => SCy I' R' (stOk (updF A k f v) 1 (updI A k f v) A) A (finA (XR 1 (updI A k f v) A)) hs h sn kp tx tn)) := by
  have hFR := H.1
  have hk1 := ka1
  have hk2 := ka_sta isB2
  have hkt := ka_tbl isB2
  have hkr := ka_rls isB2
  have hkg := ka_log isB2
  have hk145 := ka145
  have hk315 := ka315
  have hx0 := hFR.2.1.1
  have hx1 := hFR.2.1.2.1
  have hx2 := hFR.2.1.2.2.1
  have hx4 := hFR.2.1.2.2.2.1
  have hx5 := hFR.2.1.2.2.2.2
  have he0 := hFR.2.2.1.1
  have hs0 : R 2 0 = some (2 + 1) := (hFR.1 2 isB2).1
  have hs1 : R 2 1 = some (2 + 23) := (hFR.1 2 isB2).2.1
  have hs2 : R 2 2 = some (2 + 38) := (hFR.1 2 isB2).2.2.1
  refine Sp.on (by decide +kernel) rfl rfl (fun J hM => ?_)
  have hJ := hM.ok
  refine q_aload_n hJ dX10_update_0 (q := 1) rfl rfl (by first | rfl | exact isR_rr _) ?_
  refine q_getR hJ dX10_update_1 (q := 4) rfl fl_X10_19 rfl (by first | assumption | exact ka_x) (by assumption) rfl ?_
  refine q_aload_n hJ dX10_update_4 (q := 5) rfl rfl (by first | rfl | exact isR_rr _) ?_
  refine q_getR hJ dX10_update_5 (q := 8) rfl fl_X10_10 rfl (by first | assumption | exact ka_x) (by assumption) rfl ?_
  refine q_getR hJ dX10_update_8 (q := 11) rfl fl_X10_58 rfl (by first | assumption | exact ka_x) (by assumption) rfl ?_
  refine q_callV hJ dX10_update_11 (q := 14) rfl (S_stateCopy 61 2 B A I R isB61 isB2 (by decide) hFR H.2.2.2.2.1 H.2.2.2.1 H.2.2.2.2.2.2.2.2.2.1) imX7_copyFrom ln_X10_114 (ka_sta isB61) (by decide) rfl rfl rfl rfl (Nat.le_of_ble_eq_true rfl) (by decide) (by decide) rfl rfl (fun rv gv Iv Rv hv => ?_)
  obtain ⟨rfl, rfl, rfl, hX, hO⟩ := hv
  have H1 : CYB Iv R A hs h sn kp tx tn A := H.put61 hX H.2.2.2.2.2.2.2.2.2.1 hO
  have hM1 : ∀ a, 317 ≤ a → Iv a = I a := fun a ha => hO a (by omega)
  refine q_aload_n hJ dX10_update_14 (q := 15) rfl rfl (by first | rfl | exact isR_rr _) ?_
  refine q_aload_n hJ dX10_update_15 (q := 16) rfl rfl (by first | rfl | exact isR_rr _) ?_
  refine q_getR hJ dX10_update_16 (q := 19) rfl fl_X10_10 rfl (by first | assumption | exact ka_x) (by assumption) rfl ?_
  refine q_iload_n hJ dX10_update_19 (q := 20) rfl rfl ?_
  refine q_iload_n hJ dX10_update_20 (q := 21) rfl rfl ?_
  refine q_iload_n hJ dX10_update_21 (q := 22) rfl rfl ?_
  refine q_callV hJ dX10_update_22 (q := 25) rfl (S_runUpdate k f v A _ R hFR H1.2.2.2.1 H1.2.1 H1.2.2.1) imX0_runUpdate ln_X10_125 hk1 (by decide) rfl rfl rfl rfl (Nat.le_of_ble_eq_true rfl) (by decide) (by decide) rfl rfl (fun rv gv Iv Rv hv => ?_)
  rcases hv with ⟨hft, rfl, rfl, rfl, rfl⟩ | ⟨hft, rfl, rfl, hA2, hEn, hF, hR2, hFR2, hZ2⟩
  · refine q_callV hJ dX10_update_25 (q := 28) rfl (S_settle A hs h sn kp tx tn A (updF A k f v) _ _ H1) imX10_settle ln_X10_121 (by first | assumption | exact ka_x) (by decide) rfl rfl rfl rfl (Nat.le_of_ble_eq_true rfl) (by decide) (by decide) rfl rfl (fun rv gv Iv Rv hv => ?_)
    obtain ⟨rfl, rfl, hX3, hM3⟩ := hv
    refine q_iret hM dX10_update_28 rfl rfl ?_
    refine ⟨by rw [stR, if_neg hft], rfl, ?_, fun a ha => by rw [hM3 a ha, hM1 a ha]⟩
    rw [if_pos ((updF_neg A k f v).resolve_left hft)] at hX3
    exact Or.inr ⟨fun z => hft z.1, hX3⟩
  · have H2 := H1.put2 hA2 (run_ok H1.2.2.2.2.2.2.2.2.2.1) hF hR2 hFR2 hZ2
    refine q_callV hJ dX10_update_25 (q := 28) rfl (S_settle (runA (XR 1 (updI A k f v) A)) hs h sn kp tx tn A (runR (XR 1 (updI A k f v) A)) _ _ H2) imX10_settle ln_X10_121 (by first | assumption | exact ka_x) (by decide) rfl rfl rfl rfl (Nat.le_of_ble_eq_true rfl) (by decide) (by decide) rfl rfl (fun rv gv Iv Rv hv => ?_)
    obtain ⟨rfl, rfl, hX3, hM3⟩ := hv
    refine q_iret hM dX10_update_28 rfl rfl ?_
    refine ⟨by rw [stR, if_pos hft], rfl, ?_, fun a ha => by rw [hM3 a ha, hF a (Or.inr ⟨by omega, Or.inr (by omega)⟩), hM1 a ha]⟩
    by_cases hr : xR (XR 1 (updI A k f v) A) = 0
    · rw [if_neg (fun z => runR_neg.mp z hr), runA, if_pos hr] at hX3
      exact Or.inl ⟨⟨hft, hr⟩, hX3⟩
    · rw [if_pos (runR_neg.mpr hr)] at hX3
      exact Or.inr ⟨fun z => hr z.2, hX3⟩

set_option maxRecDepth 100000 in
set_option maxHeartbeats 400000 in
theorem S_delete (k : Int32) (A : AS) (hs : Nat → AS) (h : Nat) (sn : AS) (kp : Bool) (tx : Nat → Int32) (tn : Nat) (B : AS) (I : MI) (R : MR) (H : CYB I R A hs h sn kp tx tn B) : Sp 37 0 0 mX10_delete [.ref 0, .int k] g0 I R (CyP (stR (dltF A k) 2 (dltI A k) A) I (fun I' R' => SCy I' R' (stOk (dltF A k) 2 (dltI A k) A) A (finA (XR 2 (dltI A k) A)) hs h sn kp tx tn)) := by
  have hFR := H.1
  have hk1 := ka1
  have hk2 := ka_sta isB2
  have hkt := ka_tbl isB2
  have hkr := ka_rls isB2
  have hkg := ka_log isB2
  have hk145 := ka145
  have hk315 := ka315
  have hx0 := hFR.2.1.1
  have hx1 := hFR.2.1.2.1
  have hx2 := hFR.2.1.2.2.1
  have hx4 := hFR.2.1.2.2.2.1
  have hx5 := hFR.2.1.2.2.2.2
  have he0 := hFR.2.2.1.1
  have hs0 : R 2 0 = some (2 + 1) := (hFR.1 2 isB2).1
  have hs1 : R 2 1 = some (2 + 23) := (hFR.1 2 isB2).2.1
  have hs2 : R 2 2 = some (2 + 38) := (hFR.1 2 isB2).2.2.1
  refine Sp.on (by decide +kernel) rfl rfl (fun J hM => ?_)
  have hJ := hM.ok
  refine q_aload_n hJ dX10_delete_0 (q := 1) rfl rfl (by first | rfl | exact isR_rr _) ?_
  refine q_getR hJ dX10_delete_1 (q := 4) rfl fl_X10_19 rfl (by first | assumption | exact ka_x) (by assumption) rfl ?_
  refine q_aload_n hJ dX10_delete_4 (q := 5) rfl rfl (by first | rfl | exact isR_rr _) ?_
  refine q_getR hJ dX10_delete_5 (q := 8) rfl fl_X10_10 rfl (by first | assumption | exact ka_x) (by assumption) rfl ?_
  refine q_getR hJ dX10_delete_8 (q := 11) rfl fl_X10_58 rfl (by first | assumption | exact ka_x) (by assumption) rfl ?_
  refine q_callV hJ dX10_delete_11 (q := 14) rfl (S_stateCopy 61 2 B A I R isB61 isB2 (by decide) hFR H.2.2.2.2.1 H.2.2.2.1 H.2.2.2.2.2.2.2.2.2.1) imX7_copyFrom ln_X10_114 (ka_sta isB61) (by decide) rfl rfl rfl rfl (Nat.le_of_ble_eq_true rfl) (by decide) (by decide) rfl rfl (fun rv gv Iv Rv hv => ?_)
  obtain ⟨rfl, rfl, rfl, hX, hO⟩ := hv
  have H1 : CYB Iv R A hs h sn kp tx tn A := H.put61 hX H.2.2.2.2.2.2.2.2.2.1 hO
  have hM1 : ∀ a, 317 ≤ a → Iv a = I a := fun a ha => hO a (by omega)
  refine q_aload_n hJ dX10_delete_14 (q := 15) rfl rfl (by first | rfl | exact isR_rr _) ?_
  refine q_aload_n hJ dX10_delete_15 (q := 16) rfl rfl (by first | rfl | exact isR_rr _) ?_
  refine q_getR hJ dX10_delete_16 (q := 19) rfl fl_X10_10 rfl (by first | assumption | exact ka_x) (by assumption) rfl ?_
  refine q_iload_n hJ dX10_delete_19 (q := 20) rfl rfl ?_
  refine q_callV hJ dX10_delete_20 (q := 23) rfl (S_runDelete k A _ R hFR H1.2.2.2.1 H1.2.1 H1.2.2.1) imX0_runDelete ln_X10_129 hk1 (by decide) rfl rfl rfl rfl (Nat.le_of_ble_eq_true rfl) (by decide) (by decide) rfl rfl (fun rv gv Iv Rv hv => ?_)
  rcases hv with ⟨hft, rfl, rfl, rfl, rfl⟩ | ⟨hft, rfl, rfl, hA2, hEn, hF, hR2, hFR2, hZ2⟩
  · refine q_callV hJ dX10_delete_23 (q := 26) rfl (S_settle A hs h sn kp tx tn A (dltF A k) _ _ H1) imX10_settle ln_X10_121 (by first | assumption | exact ka_x) (by decide) rfl rfl rfl rfl (Nat.le_of_ble_eq_true rfl) (by decide) (by decide) rfl rfl (fun rv gv Iv Rv hv => ?_)
    obtain ⟨rfl, rfl, hX3, hM3⟩ := hv
    refine q_iret hM dX10_delete_26 rfl rfl ?_
    refine ⟨by rw [stR, if_neg hft], rfl, ?_, fun a ha => by rw [hM3 a ha, hM1 a ha]⟩
    rw [if_pos ((dltF_neg A k).resolve_left hft)] at hX3
    exact Or.inr ⟨fun z => hft z.1, hX3⟩
  · have H2 := H1.put2 hA2 (run_ok H1.2.2.2.2.2.2.2.2.2.1) hF hR2 hFR2 hZ2
    refine q_callV hJ dX10_delete_23 (q := 26) rfl (S_settle (runA (XR 2 (dltI A k) A)) hs h sn kp tx tn A (runR (XR 2 (dltI A k) A)) _ _ H2) imX10_settle ln_X10_121 (by first | assumption | exact ka_x) (by decide) rfl rfl rfl rfl (Nat.le_of_ble_eq_true rfl) (by decide) (by decide) rfl rfl (fun rv gv Iv Rv hv => ?_)
    obtain ⟨rfl, rfl, hX3, hM3⟩ := hv
    refine q_iret hM dX10_delete_26 rfl rfl ?_
    refine ⟨by rw [stR, if_pos hft], rfl, ?_, fun a ha => by rw [hM3 a ha, hF a (Or.inr ⟨by omega, Or.inr (by omega)⟩), hM1 a ha]⟩
    by_cases hr : xR (XR 2 (dltI A k) A) = 0
    · rw [if_neg (fun z => runR_neg.mp z hr), runA, if_pos hr] at hX3
      exact Or.inl ⟨⟨hft, hr⟩, hX3⟩
    · rw [if_pos (runR_neg.mpr hr)] at hX3
      exact Or.inr ⟨fun z => hr z.2, hX3⟩

