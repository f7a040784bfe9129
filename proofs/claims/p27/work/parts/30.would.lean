/-! addRule, removeRule; what would be; texts carried out -/
def defU (e m rk kd a b c : Int32) : Nat → Int32 := fun t => if t = 0 then e else if t = 1 then m else if t = 2 then rk else if t = 3 then kd else if t = 4 then a else if t = 5 then b else if t = 6 then c else if t = 7 then 3 else if t = 8 then 4 else if t = 9 then 0 else if t = 10 then 1 else 0
def addU (A : AS) (e m rk kd a b c : Int32) : Nat → Nat → Int32 := fun j => if j = aM A then defU e m rk kd a b c else aU A j
abbrev addB (e m rk kd a b c : Int32) : Prop := inR e 0 2 = 0 ∨ inR m 0 1 = 0 ∨ inR rk 0 99 = 0 ∨ kindF m kd = 0 ∨ inR a 0 2 = 0 ∨ inR b 0 3 = 0 ∨ inR c (-999) 999 = 0
def addOk (A : AS) (e m rk kd a b c : Int32) : Prop := ¬ addB e m rk kd a b c ∧ aM A < 12
def addV (A : AS) (e m rk kd a b c : Int32) : Int32 := if addB e m rk kd a b c then -1002 else if aM A < 12 then nI (aM A) else -1003
def dropU (A : AS) (i : Nat) : Nat → Nat → Int32 := fun j => if j < i then aU A j else aU A (j + 1)
def dropV (A : AS) (x : Int32) : Int32 := if x < 0 then -1001 else if nI (aM A) ≤ x then -1001 else nI (aM A - 1)
theorem ruN_oth {I : MI} {q a : Nat} (h : a ≠ q) (e m rk kd x y z : Int32) : ruN I q e m rk kd x y z a = I a := by
  unfold ruN ruD ru7
  simp only [up2_other _ _ _ _ h]
theorem ruN_self {I : MI} {q : Nat} (e m rk kd x y z : Int32) : ∀ f, f < 12 → ruN I q e m rk kd x y z q f = defU e m rk kd x y z f := by
  intro f hf
  unfold ruN ruD ru7 defU
  simp only [up2_app]
  rcases (show f = 0 ∨ f = 1 ∨ f = 2 ∨ f = 3 ∨ f = 4 ∨ f = 5 ∨ f = 6 ∨ f = 7 ∨ f = 8 ∨ f = 9 ∨ f = 10 ∨ f = 11 by omega) with rfl | rfl | rfl | rfl | rfl | rfl | rfl | rfl | rfl | rfl | rfl | rfl <;> rfl
theorem RulQ.add {I Iw : MI} {R : MR} {Q : Nat → Nat} {U : Nat → Nat → Int32} {m : Nat} (h : RulQ I R 2 Q U m) (hm : m < 12) {u : Nat → Int32} (h1 : ∀ a, a ≠ Q m → Iw a = I a) (h2 : ∀ f, f < 12 → Iw (Q m) f = u f) : RulQ (nuM (up2 Iw (2 + 23) 2 (nI (m + 1))) 2 (osrt (fun r => up2 Iw (2 + 23) 2 (nI (m + 1)) (Q r) 2) (m + 1)) (m + 1)) R 2 Q (fun j => if j = m then u else U j) (m + 1) := by
  obtain ⟨hU, hC, hO⟩ := h
  have hq := hU.2.2
  have fld : ∀ j, j < m + 1 → ∀ f, f < 12 → Iw (Q j) f = (if j = m then u else U j) f := fun j hj f hf => by
    by_cases e : j = m
    · rw [if_pos e, e]; exact h2 f hf
    · rw [if_neg e, h1 _ (fun z => e ((hq m hm).2.2.2 j (by omega) z))]; exact hC j (by omega) f hf
  refine ⟨⟨by rw [nuM_other (by decide), up2_app, if_pos ⟨rfl, rfl⟩], by omega, hq⟩, fun j hj f hf => ?_, fun j hj => ?_⟩
  · have hj1 := (hq j (by omega)).2.1
    rw [nuM_other (by omega), up2_other _ _ _ _ (by omega)]; exact fld j hj f hf
  · rw [nuM_in hj]
    congr 1
    refine congrFun (osrt_congr (fun t ht => ?_)) j
    have hj1 := (hq t (by omega)).2.1
    show up2 Iw (2 + 23) 2 (nI (m + 1)) (Q t) 2 = (if t = m then u else U t) 2
    rw [up2_other _ _ _ _ (by omega)]; exact fld t ht 2 (by decide)
theorem RulQ.drop {I : MI} {R : MR} {Q : Nat → Nat} {U : Nat → Nat → Int32} {m i : Nat} (h : RulQ I R 2 Q U m) (hi : i < m) : RulQ (nuM (up2 I (2 + 23) 2 (nI (m - 1))) 2 (osrt (fun r => (up2 I (2 + 23) 2 (nI (m - 1))) (cutF Q i m r) 2) (m - 1)) (m - 1)) (up2 (dQ R 2 Q i (m - 1)) (2 + 24) (m - 1) (some (Q i))) 2 (cutF Q i m) (fun j => if j < i then U j else U (j + 1)) (m - 1) := by
  obtain ⟨hU, hC, hO⟩ := h
  have hc := hU.cut hi (nuM (up2 I (2 + 23) 2 (nI (m - 1))) 2 (osrt (fun r => (up2 I (2 + 23) 2 (nI (m - 1))) (cutF Q i m r) 2) (m - 1)) (m - 1)) (by rw [nuM_other (by decide), up2_app, if_pos ⟨rfl, rfl⟩])
  have hm := hU.2.1
  have hq := hU.2.2
  have fld : ∀ j, j < m - 1 → ∀ f, f < 12 → I (cutF Q i m j) f = (if j < i then U j else U (j + 1)) f := fun j hj f hf => by
    unfold cutF
    by_cases e : j < i
    · rw [if_pos e, if_pos e]; exact hC j (by omega) f hf
    · rw [if_neg e, if_neg e, if_pos (by omega)]; exact hC (j + 1) (by omega) f hf
  have big : ∀ j, j < m - 1 → 2 + 26 ≤ cutF Q i m j := fun j hj => by
    unfold cutF
    by_cases e : j < i
    · rw [if_pos e]; exact (hq j (by omega)).2.1
    · rw [if_neg e, if_pos (by omega)]; exact (hq (j + 1) (by omega)).2.1
  refine ⟨hc, fun j hj f hf => ?_, fun j hj => ?_⟩
  · have := big j hj
    rw [nuM_other (by omega), up2_other _ _ _ _ (by omega)]; exact fld j hj f hf
  · rw [nuM_in hj]
    congr 1
    refine congrFun (osrt_congr (fun t ht => ?_)) j
    have := big t ht
    show up2 I (2 + 23) 2 (nI (m - 1)) (cutF Q i m t) 2 = (if t < i then U t else U (t + 1)) 2
    rw [up2_other _ _ _ _ (by omega)]; exact fld t ht 2 (by decide)
set_option maxRecDepth 100000 in
set_option maxHeartbeats 400000 in
theorem S_add (e m rk kd a b c : Int32) (A : AS) (hs : Nat → AS) (h : Nat) (sn : AS) (kp : Bool) (tx : Nat → Int32) (tn : Nat) (B : AS) (I : MI) (R : MR) (H : CYB I R A hs h sn kp tx tn B) : Sp 37 0 0 mX10_addRule [.ref 0, .int e, .int m, .int rk, .int kd, .int a, .int b, .int c] g0 I R (CyP (addV A e m rk kd a b c) I (fun I' R' => (addOk A e m rk kd a b c ∧ CYB I' R' (setR A (addU A e m rk kd a b c) (aM A + 1)) (pushH hs h A) (pushN h) sn kp tx tn B) ∨ (¬ addOk A e m rk kd a b c ∧ CYB I' R' A hs h sn kp tx tn B))) := by
  have hFR := H.1
  have hk1 := ka1
  have hk2 := ka_sta isB2
  have hkt := ka_tbl isB2
  have hkr := ka_rls isB2
  have hkg := ka_log isB2
  have hk145 := ka145
  have hk315 := ka315
  have hx0 := hFR.2.1.1
  have hx1 := hFR.2.1.2.1
  have hx2 := hFR.2.1.2.2.1
  have hx4 := hFR.2.1.2.2.2.1
  have hx5 := hFR.2.1.2.2.2.2
  have he0 := hFR.2.2.1.1
  have hs0 : R 2 0 = some (2 + 1) := (hFR.1 2 isB2).1
  have hs1 : R 2 1 = some (2 + 23) := (hFR.1 2 isB2).2.1
  have hs2 : R 2 2 = some (2 + 38) := (hFR.1 2 isB2).2.2.1
  obtain ⟨Q, hU, hC, hO⟩ := id H.2.2.2.1.2.2.1
  have hQ := hU.2.2
  have hm := hU.2.1
  refine Sp.on (by decide +kernel) rfl rfl (fun J hM => ?_)
  have hJ := hM.ok
  refine q_iload_n hJ dX10_addRule_0 (q := 1) rfl rfl ?_
  refine q_callS hJ dX10_addRule_1 (q := 4) rfl (S_isEvent e I R) imX10_isEvent ln_X10_40 rfl rfl rfl (Nat.le_of_ble_eq_true rfl) (by decide) (by decide) rfl rfl (fun rv gv Iv Rv hv => ?_)
  obtain ⟨rfl, rfl, rfl, rfl⟩ := hv
  refine q_if_eq hJ (tgt := 61) dX10_addRule_4 (q := 7) rfl (by decide) (fun c1 => ?_) (fun c1 => ?_)
  · refine q_sipush hJ (v := (-1002)) dX10_addRule_61 (q := 64) rfl (by decide) ?_
    refine q_iret hM dX10_addRule_64 rfl rfl ?_
    have hn : addB e m rk kd a b c := by first | exact Or.inl c1 | exact Or.inr (Or.inl c2) | exact Or.inr (Or.inr (Or.inl c3)) | exact Or.inr (Or.inr (Or.inr (Or.inl c4))) | exact Or.inr (Or.inr (Or.inr (Or.inr (Or.inl c5)))) | exact Or.inr (Or.inr (Or.inr (Or.inr (Or.inr (Or.inl c6))))) | exact Or.inr (Or.inr (Or.inr (Or.inr (Or.inr (Or.inr c7)))))
    exact ⟨by unfold addV; rw [if_pos hn], rfl, Or.inr ⟨fun z => z.1 hn, H⟩, fun a ha => rfl⟩
  · refine q_iload_n hJ dX10_addRule_7 (q := 8) rfl rfl ?_
    refine q_callS hJ dX10_addRule_8 (q := 11) rfl (S_isMoment m I R) imX10_isMoment ln_X10_44 rfl rfl rfl (Nat.le_of_ble_eq_true rfl) (by decide) (by decide) rfl rfl (fun rv gv Iv Rv hv => ?_)
    obtain ⟨rfl, rfl, rfl, rfl⟩ := hv
    refine q_if_eq hJ (tgt := 61) dX10_addRule_11 (q := 14) rfl (by decide) (fun c2 => ?_) (fun c2 => ?_)
    · refine q_sipush hJ (v := (-1002)) dX10_addRule_61 (q := 64) rfl (by decide) ?_
      refine q_iret hM dX10_addRule_64 rfl rfl ?_
      have hn : addB e m rk kd a b c := by first | exact Or.inl c1 | exact Or.inr (Or.inl c2) | exact Or.inr (Or.inr (Or.inl c3)) | exact Or.inr (Or.inr (Or.inr (Or.inl c4))) | exact Or.inr (Or.inr (Or.inr (Or.inr (Or.inl c5)))) | exact Or.inr (Or.inr (Or.inr (Or.inr (Or.inr (Or.inl c6))))) | exact Or.inr (Or.inr (Or.inr (Or.inr (Or.inr (Or.inr c7)))))
      exact ⟨by unfold addV; rw [if_pos hn], rfl, Or.inr ⟨fun z => z.1 hn, H⟩, fun a ha => rfl⟩
    · refine q_iload_n hJ dX10_addRule_14 (q := 15) rfl rfl ?_
      refine q_iconst hJ (v := 0) dX10_addRule_15 (q := 16) rfl (by decide) ?_
      refine q_bipush hJ (v := 99) dX10_addRule_16 (q := 18) rfl (by decide) ?_
      refine q_callS hJ dX10_addRule_18 (q := 21) rfl (S_within rk 0 99 I R) imX10_within ln_X10_47 rfl rfl rfl (Nat.le_of_ble_eq_true rfl) (by decide) (by decide) rfl rfl (fun rv gv Iv Rv hv => ?_)
      obtain ⟨rfl, rfl, rfl, rfl⟩ := hv
      refine q_if_eq hJ (tgt := 61) dX10_addRule_21 (q := 24) rfl (by decide) (fun c3 => ?_) (fun c3 => ?_)
      · refine q_sipush hJ (v := (-1002)) dX10_addRule_61 (q := 64) rfl (by decide) ?_
        refine q_iret hM dX10_addRule_64 rfl rfl ?_
        have hn : addB e m rk kd a b c := by first | exact Or.inl c1 | exact Or.inr (Or.inl c2) | exact Or.inr (Or.inr (Or.inl c3)) | exact Or.inr (Or.inr (Or.inr (Or.inl c4))) | exact Or.inr (Or.inr (Or.inr (Or.inr (Or.inl c5)))) | exact Or.inr (Or.inr (Or.inr (Or.inr (Or.inr (Or.inl c6))))) | exact Or.inr (Or.inr (Or.inr (Or.inr (Or.inr (Or.inr c7)))))
        exact ⟨by unfold addV; rw [if_pos hn], rfl, Or.inr ⟨fun z => z.1 hn, H⟩, fun a ha => rfl⟩
      · refine q_iload_n hJ dX10_addRule_24 (q := 25) rfl rfl ?_
        refine q_iload hJ dX10_addRule_25 (q := 27) rfl rfl ?_
        refine q_callS hJ dX10_addRule_27 (q := 30) rfl (S_isKindFor m kd I R) imX10_isKindFor ln_X10_51 rfl rfl rfl (Nat.le_of_ble_eq_true rfl) (by decide) (by decide) rfl rfl (fun rv gv Iv Rv hv => ?_)
        obtain ⟨rfl, rfl, rfl, rfl⟩ := hv
        refine q_if_eq hJ (tgt := 61) dX10_addRule_30 (q := 33) rfl (by decide) (fun c4 => ?_) (fun c4 => ?_)
        · refine q_sipush hJ (v := (-1002)) dX10_addRule_61 (q := 64) rfl (by decide) ?_
          refine q_iret hM dX10_addRule_64 rfl rfl ?_
          have hn : addB e m rk kd a b c := by first | exact Or.inl c1 | exact Or.inr (Or.inl c2) | exact Or.inr (Or.inr (Or.inl c3)) | exact Or.inr (Or.inr (Or.inr (Or.inl c4))) | exact Or.inr (Or.inr (Or.inr (Or.inr (Or.inl c5)))) | exact Or.inr (Or.inr (Or.inr (Or.inr (Or.inr (Or.inl c6))))) | exact Or.inr (Or.inr (Or.inr (Or.inr (Or.inr (Or.inr c7)))))
          exact ⟨by unfold addV; rw [if_pos hn], rfl, Or.inr ⟨fun z => z.1 hn, H⟩, fun a ha => rfl⟩
        · refine q_iload hJ dX10_addRule_33 (q := 35) rfl rfl ?_
          refine q_iconst hJ (v := 0) dX10_addRule_35 (q := 36) rfl (by decide) ?_
          refine q_iconst hJ (v := 2) dX10_addRule_36 (q := 37) rfl (by decide) ?_
          refine q_callS hJ dX10_addRule_37 (q := 40) rfl (S_within a 0 2 I R) imX10_within ln_X10_47 rfl rfl rfl (Nat.le_of_ble_eq_true rfl) (by decide) (by decide) rfl rfl (fun rv gv Iv Rv hv => ?_)
          obtain ⟨rfl, rfl, rfl, rfl⟩ := hv
          refine q_if_eq hJ (tgt := 61) dX10_addRule_40 (q := 43) rfl (by decide) (fun c5 => ?_) (fun c5 => ?_)
          · refine q_sipush hJ (v := (-1002)) dX10_addRule_61 (q := 64) rfl (by decide) ?_
            refine q_iret hM dX10_addRule_64 rfl rfl ?_
            have hn : addB e m rk kd a b c := by first | exact Or.inl c1 | exact Or.inr (Or.inl c2) | exact Or.inr (Or.inr (Or.inl c3)) | exact Or.inr (Or.inr (Or.inr (Or.inl c4))) | exact Or.inr (Or.inr (Or.inr (Or.inr (Or.inl c5)))) | exact Or.inr (Or.inr (Or.inr (Or.inr (Or.inr (Or.inl c6))))) | exact Or.inr (Or.inr (Or.inr (Or.inr (Or.inr (Or.inr c7)))))
            exact ⟨by unfold addV; rw [if_pos hn], rfl, Or.inr ⟨fun z => z.1 hn, H⟩, fun a ha => rfl⟩
          · refine q_iload hJ dX10_addRule_43 (q := 45) rfl rfl ?_
            refine q_iconst hJ (v := 0) dX10_addRule_45 (q := 46) rfl (by decide) ?_
            refine q_iconst hJ (v := 3) dX10_addRule_46 (q := 47) rfl (by decide) ?_
            refine q_callS hJ dX10_addRule_47 (q := 50) rfl (S_within b 0 3 I R) imX10_within ln_X10_47 rfl rfl rfl (Nat.le_of_ble_eq_true rfl) (by decide) (by decide) rfl rfl (fun rv gv Iv Rv hv => ?_)
            obtain ⟨rfl, rfl, rfl, rfl⟩ := hv
            refine q_if_eq hJ (tgt := 61) dX10_addRule_50 (q := 53) rfl (by decide) (fun c6 => ?_) (fun c6 => ?_)
            · refine q_sipush hJ (v := (-1002)) dX10_addRule_61 (q := 64) rfl (by decide) ?_
              refine q_iret hM dX10_addRule_64 rfl rfl ?_
              have hn : addB e m rk kd a b c := by first | exact Or.inl c1 | exact Or.inr (Or.inl c2) | exact Or.inr (Or.inr (Or.inl c3)) | exact Or.inr (Or.inr (Or.inr (Or.inl c4))) | exact Or.inr (Or.inr (Or.inr (Or.inr (Or.inl c5)))) | exact Or.inr (Or.inr (Or.inr (Or.inr (Or.inr (Or.inl c6))))) | exact Or.inr (Or.inr (Or.inr (Or.inr (Or.inr (Or.inr c7)))))
              exact ⟨by unfold addV; rw [if_pos hn], rfl, Or.inr ⟨fun z => z.1 hn, H⟩, fun a ha => rfl⟩
            · refine q_iload hJ dX10_addRule_53 (q := 55) rfl rfl ?_
              refine q_callS hJ dX10_addRule_55 (q := 58) rfl (S_isValue c I R) imX10_isValue ln_X10_55 rfl rfl rfl (Nat.le_of_ble_eq_true rfl) (by decide) (by decide) rfl rfl (fun rv gv Iv Rv hv => ?_)
              obtain ⟨rfl, rfl, rfl, rfl⟩ := hv
              refine q_if_ne hJ (tgt := 65) dX10_addRule_58 (q := 61) rfl (by decide) (fun c7 => ?_) (fun c7 => ?_)
              · refine q_aload_n hJ dX10_addRule_65 (q := 66) rfl rfl (by first | rfl | exact isR_rr _) ?_
                refine q_getR hJ dX10_addRule_66 (q := 69) rfl fl_X10_10 rfl (by first | assumption | exact ka_x) (by assumption) rfl ?_
                refine q_getR hJ dX10_addRule_69 (q := 72) rfl fl_X10_58 rfl (by first | assumption | exact ka_x) (by assumption) rfl ?_
                refine q_getR hJ dX10_addRule_72 (q := 75) rfl fl_X10_61 rfl (by first | assumption | exact ka_x) (by assumption) rfl ?_
                refine q_astore hJ dX10_addRule_75 (q := 77) rfl (by decide) (by first | rfl | exact isR_rr _) ?_
                refine q_aload hJ dX10_addRule_77 (q := 79) rfl rfl (by first | rfl | exact isR_rr _) ?_
                refine q_callV hJ dX10_addRule_79 (q := 82) rfl (S_spare 2 (aM A) Q I R isB2 hFR hU) imX6_spare ln_X10_65 hkr (by decide) rfl rfl rfl rfl (Nat.le_of_ble_eq_true rfl) (by decide) (by decide) rfl rfl (fun rv gv Iv Rv hv => ?_)
                obtain ⟨rfl, rfl, rfl, rfl⟩ := hv
                have hP : ¬ addB e m rk kd a b c := by rintro (z | z | z | z | z | z | z); exact c1 z; exact c2 z; exact c3 z; exact c4 z; exact c5 z; exact c6 z; exact c7 z
                refine q_astore hJ dX10_addRule_82 (q := 84) rfl (by decide) (by first | rfl | exact isR_rr _) ?_
                refine q_aload hJ dX10_addRule_84 (q := 86) rfl rfl (by first | rfl | exact isR_rr _) ?_
                by_cases hl : ¬ aM A < 12
                · rw [if_neg hl]
                  refine q_nonnullY hJ (a := 0) dX10_addRule_86 (q := 89) rfl ?_
                  refine q_sipush hJ (v := (-1003)) dX10_addRule_89 (q := 92) rfl (by decide) ?_
                  refine q_iret hM dX10_addRule_92 rfl rfl ?_
                  exact ⟨by unfold addV; rw [if_neg hP, if_neg hl], rfl, Or.inr ⟨fun z => hl z.2, H⟩, fun a ha => rfl⟩
                · have hlt : aM A < 12 := Decidable.not_not.mp hl
                  rw [if_pos hlt]
                  refine q_nonnullN hJ (tgt := 93) dX10_addRule_86 (by decide) ?_
                  refine q_aload_n hJ dX10_addRule_93 (q := 94) rfl rfl (by first | rfl | exact isR_rr _) ?_
                  refine q_getR hJ dX10_addRule_94 (q := 97) rfl fl_X10_29 rfl (by first | assumption | exact ka_x) (by assumption) rfl ?_
                  refine q_aload_n hJ dX10_addRule_97 (q := 98) rfl rfl (by first | rfl | exact isR_rr _) ?_
                  refine q_getR hJ dX10_addRule_98 (q := 101) rfl fl_X10_10 rfl (by first | assumption | exact ka_x) (by assumption) rfl ?_
                  refine q_getR hJ dX10_addRule_101 (q := 104) rfl fl_X10_58 rfl (by first | assumption | exact ka_x) (by assumption) rfl ?_
                  refine q_callV hJ dX10_addRule_104 (q := 107) rfl (S_push 2 h hs A I R hFR H.2.2.2.2.2.2.2.1 isB2 (by decide) H.2.2.2.1 H.2.2.2.2.2.2.2.2.2.1) imX2_push ln_X10_71 hk145 (by decide) rfl rfl rfl rfl (Nat.le_of_ble_eq_true rfl) (by decide) (by decide) rfl rfl (fun rv gv Iv Rv hv => ?_)
                  obtain ⟨rfl, rfl, hX, hOp, hRp, hFR2⟩ := hv
                  have H1 := H.putH hX (pushH_ok H.2.2.2.2.2.2.2.2.2.2.2.2 H.2.2.2.2.2.2.2.2.2.1) hOp hRp hFR2
                  have hy0 := hFR2.2.1.1
                  have hy2 := hFR2.2.1.2.2.1
                  have hf0 := hFR2.2.2.1.1
                  have ht0 : Rv 2 0 = some (2 + 1) := (hFR2.1 2 isB2).1
                  have ht1 : Rv 2 1 = some (2 + 23) := (hFR2.1 2 isB2).2.1
                  have hqv : RulQ Iv Rv 2 Q (aU A) (aM A) := RulQ.agr ⟨hU, hC, hO⟩ (hOp.agr (by omega)) (hRp.agr (by omega))
                  have hqm := hQ (aM A) hlt
                  have hkq := ka_rul isB2 hqm.2.1 hqm.2.2.1
                  refine q_aload hJ dX10_addRule_107 (q := 109) rfl rfl (by first | rfl | exact isR_rr _) ?_
                  refine q_iload_n hJ dX10_addRule_109 (q := 110) rfl rfl ?_
                  refine q_iload_n hJ dX10_addRule_110 (q := 111) rfl rfl ?_
                  refine q_iload_n hJ dX10_addRule_111 (q := 112) rfl rfl ?_
                  refine q_iload hJ dX10_addRule_112 (q := 114) rfl rfl ?_
                  refine q_iload hJ dX10_addRule_114 (q := 116) rfl rfl ?_
                  refine q_iload hJ dX10_addRule_116 (q := 118) rfl rfl ?_
                  refine q_iload hJ dX10_addRule_118 (q := 120) rfl rfl ?_
                  refine q_callV hJ dX10_addRule_120 (q := 123) rfl (S_define (Q (aM A)) e m rk kd a b c _ _ hkq) imX5_define ln_X10_75 hkq (by decide) rfl rfl rfl rfl (Nat.le_of_ble_eq_true rfl) (by decide) (by decide) rfl rfl (fun rv gv Iv Rv hv => ?_)
                  obtain ⟨rfl, rfl, rfl, rfl⟩ := hv
                  have hoth : ∀ t, t ≠ Q (aM A) → ruN Iv (Q (aM A)) e m rk kd a b c t = Iv t := fun t ht => ruN_oth ht _ _ _ _ _ _ _
                  refine q_aload hJ dX10_addRule_123 (q := 125) rfl rfl (by first | rfl | exact isR_rr _) ?_
                  refine q_callV hJ dX10_addRule_125 (q := 128) rfl (S_takeSpare 2 (aM A) Q _ _ isB2 hFR2 (hqv.1.of (congrFun (hoth (2 + 23) (by omega)) 2)) hlt) imX6_takeSpare ln_X10_81 hkr (by decide) rfl rfl rfl rfl (Nat.le_of_ble_eq_true rfl) (by decide) (by decide) rfl rfl (fun rv gv Iv Rv hv => ?_)
                  obtain ⟨rfl, rfl, rfl, rfl⟩ := hv
                  have hqw := hqv.add hlt hoth (ruN_self e m rk kd a b c)
                  have hfin : ∀ t, t < 25 ∨ 40 ≤ t → nuM (up2 (ruN Iv (Q (aM A)) e m rk kd a b c) (2 + 23) 2 (nI (aM A + 1))) 2 (osrt (fun r => up2 (ruN Iv (Q (aM A)) e m rk kd a b c) (2 + 23) 2 (nI (aM A + 1)) (Q r) 2) (aM A + 1)) (aM A + 1) t = Iv t := fun t ht => (funext (nuM_other (by omega))).trans ((up2_other _ _ _ _ (by omega)).trans (hoth t (by omega)))
                  have H2 := H1.putR ⟨Q, hqw⟩ (fun j hj => by
                      show (if j = aM A then defU e m rk kd a b c else aU A j) 10 = 0 ∨ (if j = aM A then defU e m rk kd a b c else aU A j) 10 = 1
                      by_cases z : j = aM A
                      · rw [if_pos z]; exact Or.inr rfl
                      · rw [if_neg z]; exact H.2.2.2.2.2.2.2.2.2.1 j (by have : j < aM A + 1 := hj; omega)) hfin (Out.rf _ _ _) hFR2
                  refine q_iret hM dX10_addRule_128 rfl rfl ?_
                  exact ⟨by unfold addV; rw [if_neg hP, if_pos hlt], rfl, Or.inl ⟨⟨hP, hlt⟩, H2⟩, fun a ha => (hfin a (by omega)).trans (hOp a (by omega))⟩
              · refine q_sipush hJ (v := (-1002)) dX10_addRule_61 (q := 64) rfl (by decide) ?_
                refine q_iret hM dX10_addRule_64 rfl rfl ?_
                have hn : addB e m rk kd a b c := by first | exact Or.inl c1 | exact Or.inr (Or.inl c2) | exact Or.inr (Or.inr (Or.inl c3)) | exact Or.inr (Or.inr (Or.inr (Or.inl c4))) | exact Or.inr (Or.inr (Or.inr (Or.inr (Or.inl c5)))) | exact Or.inr (Or.inr (Or.inr (Or.inr (Or.inr (Or.inl c6))))) | exact Or.inr (Or.inr (Or.inr (Or.inr (Or.inr (Or.inr c7)))))
                exact ⟨by unfold addV; rw [if_pos hn], rfl, Or.inr ⟨fun z => z.1 hn, H⟩, fun a ha => rfl⟩

set_option maxRecDepth 100000 in
set_option maxHeartbeats 400000 in
theorem S_remove (x : Int32) (A : AS) (hs : Nat → AS) (h : Nat) (sn : AS) (kp : Bool) (tx : Nat → Int32) (tn : Nat) (B : AS) (I : MI) (R : MR) (H : CYB I R A hs h sn kp tx tn B) : Sp 37 0 0 mX10_removeRule [.ref 0, .int x] g0 I R (CyP (dropV A x) I (fun I' R' => (okR A x ∧ CYB I' R' (setR A (dropU A x.toNatClampNeg) (aM A - 1)) (pushH hs h A) (pushN h) sn kp tx tn B) ∨ (¬ okR A x ∧ CYB I' R' A hs h sn kp tx tn B))) := by
  have hFR := H.1
  have hk1 := ka1
  have hk2 := ka_sta isB2
  have hkt := ka_tbl isB2
  have hkr := ka_rls isB2
  have hkg := ka_log isB2
  have hk145 := ka145
  have hk315 := ka315
  have hx0 := hFR.2.1.1
  have hx1 := hFR.2.1.2.1
  have hx2 := hFR.2.1.2.2.1
  have hx4 := hFR.2.1.2.2.2.1
  have hx5 := hFR.2.1.2.2.2.2
  have he0 := hFR.2.2.1.1
  have hs0 : R 2 0 = some (2 + 1) := (hFR.1 2 isB2).1
  have hs1 : R 2 1 = some (2 + 23) := (hFR.1 2 isB2).2.1
  have hs2 : R 2 2 = some (2 + 38) := (hFR.1 2 isB2).2.2.1
  obtain ⟨Q, hU, hC, hO⟩ := id H.2.2.2.1.2.2.1
  have hQ := hU.2.2
  have hm := hU.2.1
  refine Sp.on (by decide +kernel) rfl rfl (fun J hM => ?_)
  have hJ := hM.ok
  refine q_aload_n hJ dX10_removeRule_0 (q := 1) rfl rfl (by first | rfl | exact isR_rr _) ?_
  refine q_getR hJ dX10_removeRule_1 (q := 4) rfl fl_X10_10 rfl (by first | assumption | exact ka_x) (by assumption) rfl ?_
  refine q_getR hJ dX10_removeRule_4 (q := 7) rfl fl_X10_58 rfl (by first | assumption | exact ka_x) (by assumption) rfl ?_
  refine q_getR hJ dX10_removeRule_7 (q := 10) rfl fl_X10_61 rfl (by first | assumption | exact ka_x) (by assumption) rfl ?_
  refine q_astore_n hJ dX10_removeRule_10 (q := 11) rfl (by decide) (by first | rfl | exact isR_rr _) ?_
  refine q_aload_n hJ dX10_removeRule_11 (q := 12) rfl rfl (by first | rfl | exact isR_rr _) ?_
  refine q_iload_n hJ dX10_removeRule_12 (q := 13) rfl rfl ?_
  refine q_callV hJ dX10_removeRule_13 (q := 16) rfl (S_ruleOf 2 _ Q x I R isB2 hFR hU) imX6_ruleOf ln_X10_85 hkr (by decide) rfl rfl rfl rfl (Nat.le_of_ble_eq_true rfl) (by decide) (by decide) rfl rfl (fun rv gv Iv Rv hv => ?_)
  obtain ⟨rfl, rfl, rfl, rfl⟩ := hv
  by_cases c1 : x < 0 ∨ nI (aM A) ≤ x
  · rw [show rowAtF x (aM A) Q = none from by rcases c1 with z | z; exact if_pos z; by_cases zz : x < 0; exact if_pos zz; exact (if_neg zz).trans (if_pos z)]
    refine q_nonnullY hJ (a := 0) dX10_removeRule_16 (q := 19) rfl ?_
    refine q_sipush hJ (v := (-1001)) dX10_removeRule_19 (q := 22) rfl (by decide) ?_
    refine q_iret hM dX10_removeRule_22 rfl rfl ?_
    exact ⟨by unfold dropV; exact (okR_not c1).symm ▸ rfl, rfl, Or.inr ⟨fun z => z c1, H⟩, fun a ha => rfl⟩
  · obtain ⟨r, hr31, rfl⟩ := nI_of (fun z => c1 (Or.inl z))
    have hr : r < aM A := (nI_ltI hr31 (by omega)).mp (Int32.not_le.mp (fun z => c1 (Or.inr z)))
    have ecl : (nI r).toNatClampNeg = r := nI_clamp hr31
    rw [rowAtF_in12 hr hm]
    have hqr := hQ r (by omega)
    have hkq := ka_rul isB2 hqr.2.1 hqr.2.2.1
    refine q_nonnullN hJ (tgt := 23) dX10_removeRule_16 (by decide) ?_
    refine q_aload_n hJ dX10_removeRule_23 (q := 24) rfl rfl (by first | rfl | exact isR_rr _) ?_
    refine q_getR hJ dX10_removeRule_24 (q := 27) rfl fl_X10_29 rfl (by first | assumption | exact ka_x) (by assumption) rfl ?_
    refine q_aload_n hJ dX10_removeRule_27 (q := 28) rfl rfl (by first | rfl | exact isR_rr _) ?_
    refine q_getR hJ dX10_removeRule_28 (q := 31) rfl fl_X10_10 rfl (by first | assumption | exact ka_x) (by assumption) rfl ?_
    refine q_getR hJ dX10_removeRule_31 (q := 34) rfl fl_X10_58 rfl (by first | assumption | exact ka_x) (by assumption) rfl ?_
    refine q_callV hJ dX10_removeRule_34 (q := 37) rfl (S_push 2 h hs A I R hFR H.2.2.2.2.2.2.2.1 isB2 (by decide) H.2.2.2.1 H.2.2.2.2.2.2.2.2.2.1) imX2_push ln_X10_71 hk145 (by decide) rfl rfl rfl rfl (Nat.le_of_ble_eq_true rfl) (by decide) (by decide) rfl rfl (fun rv gv Iv Rv hv => ?_)
    obtain ⟨rfl, rfl, hX, hOp, hRp, hFR2⟩ := hv
    have H1 := H.putH hX (pushH_ok H.2.2.2.2.2.2.2.2.2.2.2.2 H.2.2.2.2.2.2.2.2.2.1) hOp hRp hFR2
    have hy0 := hFR2.2.1.1
    have hy2 := hFR2.2.1.2.2.1
    have hf0 := hFR2.2.2.1.1
    have ht0 : Rv 2 0 = some (2 + 1) := (hFR2.1 2 isB2).1
    have ht1 : Rv 2 1 = some (2 + 23) := (hFR2.1 2 isB2).2.1
    have hqv : RulQ Iv Rv 2 Q (aU A) (aM A) := RulQ.agr ⟨hU, hC, hO⟩ (hOp.agr (by omega)) (hRp.agr (by omega))
    refine q_aload_n hJ dX10_removeRule_37 (q := 38) rfl rfl (by first | rfl | exact isR_rr _) ?_
    refine q_iload_n hJ dX10_removeRule_38 (q := 39) rfl rfl ?_
    refine q_callV hJ dX10_removeRule_39 (q := 42) rfl (S_ruleDrop 2 (aM A) r Q _ _ isB2 hFR2 hqv.1 hr) imX6_drop ln_X10_100 hkr (by decide) rfl rfl rfl rfl (Nat.le_of_ble_eq_true rfl) (by decide) (by decide) rfl rfl (fun rv gv Iv Rv hv => ?_)
    obtain ⟨rfl, rfl, rfl, rfl⟩ := hv
    have hqw := hqv.drop hr
    have hfin : ∀ t, t < 25 ∨ 40 ≤ t → nuM (up2 Iv (2 + 23) 2 (nI (aM A - 1))) 2 (osrt (fun r_1 => (up2 Iv (2 + 23) 2 (nI (aM A - 1))) (cutF Q r (aM A) r_1) 2) (aM A - 1)) (aM A - 1) t = Iv t := fun t ht => (funext (nuM_other (by omega))).trans (up2_other _ _ _ _ (by omega))
    have hRf : ∀ t, t < 26 ∨ 27 ≤ t → up2 (dQ Rv 2 Q r (aM A - 1)) (2 + 24) (aM A - 1) (some (Q r)) t = Rv t := fun t ht => (up2_other _ _ _ _ (by omega)).trans (funext (dQ_other (by omega)))
    have H2 := H1.putR ⟨_, hqw⟩ (fun j hj => by
        show (if j < r then aU A j else aU A (j + 1)) 10 = 0 ∨ (if j < r then aU A j else aU A (j + 1)) 10 = 1
        by_cases z : j < r
        · rw [if_pos z]; exact H.2.2.2.2.2.2.2.2.2.1 j (by omega)
        · rw [if_neg z]; exact H.2.2.2.2.2.2.2.2.2.1 (j + 1) (by omega)) hfin hRf ((hFR2.dQ isB2 Q r (aM A - 1) (by omega)).upd (raA_24 isB2))
    refine q_aload_n hJ dX10_removeRule_42 (q := 43) rfl rfl (by first | rfl | exact isR_rr _) ?_
    refine q_getI hJ dX10_removeRule_43 (q := 46) rfl fl_X10_104 rfl hkr (show _ = nI (aM A - 1) from hqw.1.1) ?_
    refine q_iret hM dX10_removeRule_46 rfl rfl ?_
    exact ⟨by unfold dropV; rw [okR_yes c1], rfl, Or.inl ⟨c1, by rw [ecl]; exact H2⟩, fun a ha => (hfin a (by omega)).trans (hOp a (by omega))⟩

def telX (X : XS) (w : Int32) : Int32 := if w = 0 then xR X else if w = 1 then xW X else if w = 2 then nI (xO X) else if w = 3 then xF X else xD X
def ifV (ft w : Int32) (X : XS) : Int32 := if ft = 0 then (if inR w 0 4 = 0 then -1002 else telX X w) else ft
def ifU (ft w : Int32) (X : XS) : Int32 := if ft = 0 then (if inR w 0 4 = 0 then -1002 else telX X w) else if ft = -1006 then (if inR w 0 4 = 0 then -1002 else -1006) else ft
theorem telX_en {I I' : MI} {X : XS} (h : EN I X) (e : I' 1 = I 1) (w : Int32) : (if w = 0 then I' 1 6 else if w = 1 then I' 1 7 else if w = 2 then I' 1 3 else if w = 3 then I' 1 4 else I' 1 5) = telX X w := by
  obtain ⟨h1, h2, h3, h4, h5⟩ := h
  rw [e, h1, h2, h3, h4, h5]
  rfl
set_option maxRecDepth 100000 in
set_option maxHeartbeats 400000 in
theorem S_ifIns (k z o t w : Int32) (A : AS) (hs : Nat → AS) (h : Nat) (sn : AS) (kp : Bool) (tx : Nat → Int32) (tn : Nat) (B : AS) (I : MI) (R : MR) (H : CYB I R A hs h sn kp tx tn B) : Sp 37 0 0 mX10_ifInserted [.ref 0, .int k, .int z, .int o, .int t, .int w] g0 I R (CyP (ifV (insF A k z o t) w (XR 0 (insI k z o t) A)) I (fun I' R' => ∃ B', CYB I' R' A hs h sn kp tx tn B')) := by
  have hFR := H.1
  have hk1 := ka1
  have hk2 := ka_sta isB2
  have hkt := ka_tbl isB2
  have hkr := ka_rls isB2
  have hkg := ka_log isB2
  have hk145 := ka145
  have hk315 := ka315
  have hx0 := hFR.2.1.1
  have hx1 := hFR.2.1.2.1
  have hx2 := hFR.2.1.2.2.1
  have hx4 := hFR.2.1.2.2.2.1
  have hx5 := hFR.2.1.2.2.2.2
  have he0 := hFR.2.2.1.1
  have hs0 : R 2 0 = some (2 + 1) := (hFR.1 2 isB2).1
  have hs1 : R 2 1 = some (2 + 23) := (hFR.1 2 isB2).2.1
  have hs2 : R 2 2 = some (2 + 38) := (hFR.1 2 isB2).2.2.1
  refine Sp.on (by decide +kernel) rfl rfl (fun J hM => ?_)
  have hJ := hM.ok
  refine q_aload_n hJ dX10_ifInserted_0 (q := 1) rfl rfl (by first | rfl | exact isR_rr _) ?_
  refine q_getR hJ dX10_ifInserted_1 (q := 4) rfl fl_X10_10 rfl (by first | assumption | exact ka_x) (by assumption) rfl ?_
  refine q_iload_n hJ dX10_ifInserted_4 (q := 5) rfl rfl ?_
  refine q_iload_n hJ dX10_ifInserted_5 (q := 6) rfl rfl ?_
  refine q_iload_n hJ dX10_ifInserted_6 (q := 7) rfl rfl ?_
  refine q_iload hJ dX10_ifInserted_7 (q := 9) rfl rfl ?_
  refine q_callV hJ dX10_ifInserted_9 (q := 12) rfl (S_insFault A k z o t I R hFR H.2.2.2.1.2.1) imX0_insertFault ln_X10_197 hk1 (by decide) rfl rfl rfl rfl (Nat.le_of_ble_eq_true rfl) (by decide) (by decide) rfl rfl (fun rv gv Iv Rv hv => ?_)
  obtain ⟨rfl, rfl, rfl, rfl⟩ := hv
  refine q_istore hJ dX10_ifInserted_12 (q := 14) rfl (by decide) ?_
  refine q_iload hJ dX10_ifInserted_14 (q := 16) rfl rfl ?_
  refine q_if_eq hJ (tgt := 22) dX10_ifInserted_16 (q := 19) rfl (by decide) (fun c1 => ?_) (fun c1 => ?_)
  · refine q_iload hJ dX10_ifInserted_22 (q := 24) rfl rfl ?_
    refine q_callS hJ dX10_ifInserted_24 (q := 27) rfl (S_isReport w I R) imX10_isReport ln_X10_200 rfl rfl rfl (Nat.le_of_ble_eq_true rfl) (by decide) (by decide) rfl rfl (fun rv gv Iv Rv hv => ?_)
    obtain ⟨rfl, rfl, rfl, rfl⟩ := hv
    refine q_if_ne hJ (tgt := 34) dX10_ifInserted_27 (q := 30) rfl (by decide) (fun c3 => ?_) (fun c3 => ?_)
    · refine q_aload_n hJ dX10_ifInserted_34 (q := 35) rfl rfl (by first | rfl | exact isR_rr _) ?_
      refine q_getR hJ dX10_ifInserted_35 (q := 38) rfl fl_X10_19 rfl (by first | assumption | exact ka_x) (by assumption) rfl ?_
      refine q_aload_n hJ dX10_ifInserted_38 (q := 39) rfl rfl (by first | rfl | exact isR_rr _) ?_
      refine q_getR hJ dX10_ifInserted_39 (q := 42) rfl fl_X10_10 rfl (by first | assumption | exact ka_x) (by assumption) rfl ?_
      refine q_getR hJ dX10_ifInserted_42 (q := 45) rfl fl_X10_58 rfl (by first | assumption | exact ka_x) (by assumption) rfl ?_
      refine q_callV hJ dX10_ifInserted_45 (q := 48) rfl (S_stateCopy 61 2 B A I R isB61 isB2 (by decide) hFR H.2.2.2.2.1 H.2.2.2.1 H.2.2.2.2.2.2.2.2.2.1) imX7_copyFrom ln_X10_114 (ka_sta isB61) (by decide) rfl rfl rfl rfl (Nat.le_of_ble_eq_true rfl) (by decide) (by decide) rfl rfl (fun rv gv Iv Rv hv => ?_)
      obtain ⟨rfl, rfl, rfl, hX, hO⟩ := hv
      have H1 : CYB Iv R A hs h sn kp tx tn A := H.put61 hX H.2.2.2.2.2.2.2.2.2.1 hO
      have hM1 : ∀ a, 317 ≤ a → Iv a = I a := fun a ha => hO a (by omega)
      refine q_aload_n hJ dX10_ifInserted_48 (q := 49) rfl rfl (by first | rfl | exact isR_rr _) ?_
      refine q_getR hJ dX10_ifInserted_49 (q := 52) rfl fl_X10_10 rfl (by first | assumption | exact ka_x) (by assumption) rfl ?_
      refine q_iload_n hJ dX10_ifInserted_52 (q := 53) rfl rfl ?_
      refine q_iload_n hJ dX10_ifInserted_53 (q := 54) rfl rfl ?_
      refine q_iload_n hJ dX10_ifInserted_54 (q := 55) rfl rfl ?_
      refine q_iload hJ dX10_ifInserted_55 (q := 57) rfl rfl ?_
      refine q_callV hJ dX10_ifInserted_57 (q := 60) rfl (S_runInsert k z o t A _ R hFR H1.2.2.2.1 H1.2.1 H1.2.2.1) imX0_runInsert ln_X10_117 hk1 (by decide) rfl rfl rfl rfl (Nat.le_of_ble_eq_true rfl) (by decide) (by decide) rfl rfl (fun rv gv Iv Rv hv => ?_)
      rcases hv with ⟨hft, rfl, rfl, rfl, rfl⟩ | ⟨hft, rfl, rfl, hA2, hEn, hF, hR2, hFR2, hZ2⟩
      · first | exact absurd c1 hft | exact absurd c2 c4
      have H2 := H1.put2 hA2 (run_ok H1.2.2.2.2.2.2.2.2.2.1) hF hR2 hFR2 hZ2
      have hy0 := hFR2.2.1.1
      have hy1 := hFR2.2.1.2.1
      have hf0 := hFR2.2.2.1.1
      clear hx0 hx1 he0
      refine q_pop hJ dX10_ifInserted_60 (q := 61) rfl rfl ?_
      refine q_aload_n hJ dX10_ifInserted_61 (q := 62) rfl rfl (by first | rfl | exact isR_rr _) ?_
      refine q_getR hJ dX10_ifInserted_62 (q := 65) rfl fl_X10_10 rfl (by first | assumption | exact ka_x) (by assumption) rfl ?_
      refine q_getR hJ dX10_ifInserted_65 (q := 68) rfl fl_X10_58 rfl (by first | assumption | exact ka_x) (by assumption) rfl ?_
      refine q_aload_n hJ dX10_ifInserted_68 (q := 69) rfl rfl (by first | rfl | exact isR_rr _) ?_
      refine q_getR hJ dX10_ifInserted_69 (q := 72) rfl fl_X10_19 rfl (by first | assumption | exact ka_x) (by assumption) rfl ?_
      refine q_callV hJ dX10_ifInserted_72 (q := 75) rfl (S_stateCopy 2 61 _ A _ _ isB2 isB61 (by decide) hFR2 H2.2.2.2.1 H2.2.2.2.2.1 H2.2.2.2.2.2.2.2.2.2.2.1) imX7_copyFrom ln_X10_114 hk2 (by decide) rfl rfl rfl rfl (Nat.le_of_ble_eq_true rfl) (by decide) (by decide) rfl rfl (fun rv gv Iv Rv hv => ?_)
      obtain ⟨rfl, rfl, rfl, hX3, hO3⟩ := hv
      have H3 := H2.st2 hX3 H2.2.2.2.2.2.2.2.2.2.2.1 hO3
      refine q_aload_n hJ dX10_ifInserted_75 (q := 76) rfl rfl (by first | rfl | exact isR_rr _) ?_
      refine q_getR hJ dX10_ifInserted_76 (q := 79) rfl fl_X10_10 rfl (by first | assumption | exact ka_x) (by assumption) rfl ?_
      refine q_iload hJ dX10_ifInserted_79 (q := 81) rfl rfl ?_
      refine q_callV hJ dX10_ifInserted_81 (q := 84) rfl (S_report w _ _) imX0_report ln_X10_203 hk1 (by decide) rfl rfl rfl rfl (Nat.le_of_ble_eq_true rfl) (by decide) (by decide) rfl rfl (fun rv gv Iv Rv hv => ?_)
      obtain ⟨rfl, rfl, rfl, rfl⟩ := hv
      refine q_iret hM dX10_ifInserted_84 rfl rfl ?_
      first | exact absurd c2 c4 | exact ⟨by unfold ifV; rw [if_pos c1, if_neg c3, telX_en hEn (hO3 1 (by omega)) w], rfl, ⟨A, H3⟩, fun a ha => by rw [hO3 a (by omega), hF a (Or.inr ⟨by omega, Or.inr (by omega)⟩), hM1 a ha]⟩
    · refine q_sipush hJ (v := (-1002)) dX10_ifInserted_30 (q := 33) rfl (by decide) ?_
      refine q_iret hM dX10_ifInserted_33 rfl rfl ?_
      exact ⟨by unfold ifV; first | rw [if_pos c1, if_pos c3] | rw [if_neg c1, if_pos c2, if_pos c3], rfl, ⟨B, H⟩, fun a ha => rfl⟩
  · refine q_iload hJ dX10_ifInserted_19 (q := 21) rfl rfl ?_
    refine q_iret hM dX10_ifInserted_21 rfl rfl ?_
    exact ⟨by unfold ifV; rw [if_neg c1], rfl, ⟨B, H⟩, fun a ha => rfl⟩

set_option maxRecDepth 100000 in
set_option maxHeartbeats 400000 in
theorem S_ifDel (k w : Int32) (A : AS) (hs : Nat → AS) (h : Nat) (sn : AS) (kp : Bool) (tx : Nat → Int32) (tn : Nat) (B : AS) (I : MI) (R : MR) (H : CYB I R A hs h sn kp tx tn B) : Sp 37 0 0 mX10_ifDeleted [.ref 0, .int k, .int w] g0 I R (CyP (ifV (dltF A k) w (XR 2 (dltI A k) A)) I (fun I' R' => ∃ B', CYB I' R' A hs h sn kp tx tn B')) := by
  have hFR := H.1
  have hk1 := ka1
  have hk2 := ka_sta isB2
  have hkt := ka_tbl isB2
  have hkr := ka_rls isB2
  have hkg := ka_log isB2
  have hk145 := ka145
  have hk315 := ka315
  have hx0 := hFR.2.1.1
  have hx1 := hFR.2.1.2.1
  have hx2 := hFR.2.1.2.2.1
  have hx4 := hFR.2.1.2.2.2.1
  have hx5 := hFR.2.1.2.2.2.2
  have he0 := hFR.2.2.1.1
  have hs0 : R 2 0 = some (2 + 1) := (hFR.1 2 isB2).1
  have hs1 : R 2 1 = some (2 + 23) := (hFR.1 2 isB2).2.1
  have hs2 : R 2 2 = some (2 + 38) := (hFR.1 2 isB2).2.2.1
  refine Sp.on (by decide +kernel) rfl rfl (fun J hM => ?_)
  have hJ := hM.ok
  refine q_aload_n hJ dX10_ifDeleted_0 (q := 1) rfl rfl (by first | rfl | exact isR_rr _) ?_
  refine q_getR hJ dX10_ifDeleted_1 (q := 4) rfl fl_X10_10 rfl (by first | assumption | exact ka_x) (by assumption) rfl ?_
  refine q_iload_n hJ dX10_ifDeleted_4 (q := 5) rfl rfl ?_
  refine q_callV hJ dX10_ifDeleted_5 (q := 8) rfl (S_delFault A k I R hFR H.2.2.2.1.2.1) imX0_deleteFault ln_X10_209 hk1 (by decide) rfl rfl rfl rfl (Nat.le_of_ble_eq_true rfl) (by decide) (by decide) rfl rfl (fun rv gv Iv Rv hv => ?_)
  obtain ⟨rfl, rfl, rfl, rfl⟩ := hv
  refine q_istore_n hJ dX10_ifDeleted_8 (q := 9) rfl (by decide) ?_
  refine q_iload_n hJ dX10_ifDeleted_9 (q := 10) rfl rfl ?_
  refine q_if_eq hJ (tgt := 15) dX10_ifDeleted_10 (q := 13) rfl (by decide) (fun c1 => ?_) (fun c1 => ?_)
  · refine q_iload_n hJ dX10_ifDeleted_15 (q := 16) rfl rfl ?_
    refine q_callS hJ dX10_ifDeleted_16 (q := 19) rfl (S_isReport w I R) imX10_isReport ln_X10_200 rfl rfl rfl (Nat.le_of_ble_eq_true rfl) (by decide) (by decide) rfl rfl (fun rv gv Iv Rv hv => ?_)
    obtain ⟨rfl, rfl, rfl, rfl⟩ := hv
    refine q_if_ne hJ (tgt := 26) dX10_ifDeleted_19 (q := 22) rfl (by decide) (fun c3 => ?_) (fun c3 => ?_)
    · refine q_aload_n hJ dX10_ifDeleted_26 (q := 27) rfl rfl (by first | rfl | exact isR_rr _) ?_
      refine q_getR hJ dX10_ifDeleted_27 (q := 30) rfl fl_X10_19 rfl (by first | assumption | exact ka_x) (by assumption) rfl ?_
      refine q_aload_n hJ dX10_ifDeleted_30 (q := 31) rfl rfl (by first | rfl | exact isR_rr _) ?_
      refine q_getR hJ dX10_ifDeleted_31 (q := 34) rfl fl_X10_10 rfl (by first | assumption | exact ka_x) (by assumption) rfl ?_
      refine q_getR hJ dX10_ifDeleted_34 (q := 37) rfl fl_X10_58 rfl (by first | assumption | exact ka_x) (by assumption) rfl ?_
      refine q_callV hJ dX10_ifDeleted_37 (q := 40) rfl (S_stateCopy 61 2 B A I R isB61 isB2 (by decide) hFR H.2.2.2.2.1 H.2.2.2.1 H.2.2.2.2.2.2.2.2.2.1) imX7_copyFrom ln_X10_114 (ka_sta isB61) (by decide) rfl rfl rfl rfl (Nat.le_of_ble_eq_true rfl) (by decide) (by decide) rfl rfl (fun rv gv Iv Rv hv => ?_)
      obtain ⟨rfl, rfl, rfl, hX, hO⟩ := hv
      have H1 : CYB Iv R A hs h sn kp tx tn A := H.put61 hX H.2.2.2.2.2.2.2.2.2.1 hO
      have hM1 : ∀ a, 317 ≤ a → Iv a = I a := fun a ha => hO a (by omega)
      refine q_aload_n hJ dX10_ifDeleted_40 (q := 41) rfl rfl (by first | rfl | exact isR_rr _) ?_
      refine q_getR hJ dX10_ifDeleted_41 (q := 44) rfl fl_X10_10 rfl (by first | assumption | exact ka_x) (by assumption) rfl ?_
      refine q_iload_n hJ dX10_ifDeleted_44 (q := 45) rfl rfl ?_
      refine q_callV hJ dX10_ifDeleted_45 (q := 48) rfl (S_runDelete k A _ R hFR H1.2.2.2.1 H1.2.1 H1.2.2.1) imX0_runDelete ln_X10_129 hk1 (by decide) rfl rfl rfl rfl (Nat.le_of_ble_eq_true rfl) (by decide) (by decide) rfl rfl (fun rv gv Iv Rv hv => ?_)
      rcases hv with ⟨hft, rfl, rfl, rfl, rfl⟩ | ⟨hft, rfl, rfl, hA2, hEn, hF, hR2, hFR2, hZ2⟩
      · first | exact absurd c1 hft | exact absurd c2 c4
      have H2 := H1.put2 hA2 (run_ok H1.2.2.2.2.2.2.2.2.2.1) hF hR2 hFR2 hZ2
      have hy0 := hFR2.2.1.1
      have hy1 := hFR2.2.1.2.1
      have hf0 := hFR2.2.2.1.1
      clear hx0 hx1 he0
      refine q_pop hJ dX10_ifDeleted_48 (q := 49) rfl rfl ?_
      refine q_aload_n hJ dX10_ifDeleted_49 (q := 50) rfl rfl (by first | rfl | exact isR_rr _) ?_
      refine q_getR hJ dX10_ifDeleted_50 (q := 53) rfl fl_X10_10 rfl (by first | assumption | exact ka_x) (by assumption) rfl ?_
      refine q_getR hJ dX10_ifDeleted_53 (q := 56) rfl fl_X10_58 rfl (by first | assumption | exact ka_x) (by assumption) rfl ?_
      refine q_aload_n hJ dX10_ifDeleted_56 (q := 57) rfl rfl (by first | rfl | exact isR_rr _) ?_
      refine q_getR hJ dX10_ifDeleted_57 (q := 60) rfl fl_X10_19 rfl (by first | assumption | exact ka_x) (by assumption) rfl ?_
      refine q_callV hJ dX10_ifDeleted_60 (q := 63) rfl (S_stateCopy 2 61 _ A _ _ isB2 isB61 (by decide) hFR2 H2.2.2.2.1 H2.2.2.2.2.1 H2.2.2.2.2.2.2.2.2.2.2.1) imX7_copyFrom ln_X10_114 hk2 (by decide) rfl rfl rfl rfl (Nat.le_of_ble_eq_true rfl) (by decide) (by decide) rfl rfl (fun rv gv Iv Rv hv => ?_)
      obtain ⟨rfl, rfl, rfl, hX3, hO3⟩ := hv
      have H3 := H2.st2 hX3 H2.2.2.2.2.2.2.2.2.2.2.1 hO3
      refine q_aload_n hJ dX10_ifDeleted_63 (q := 64) rfl rfl (by first | rfl | exact isR_rr _) ?_
      refine q_getR hJ dX10_ifDeleted_64 (q := 67) rfl fl_X10_10 rfl (by first | assumption | exact ka_x) (by assumption) rfl ?_
      refine q_iload_n hJ dX10_ifDeleted_67 (q := 68) rfl rfl ?_
      refine q_callV hJ dX10_ifDeleted_68 (q := 71) rfl (S_report w _ _) imX0_report ln_X10_203 hk1 (by decide) rfl rfl rfl rfl (Nat.le_of_ble_eq_true rfl) (by decide) (by decide) rfl rfl (fun rv gv Iv Rv hv => ?_)
      obtain ⟨rfl, rfl, rfl, rfl⟩ := hv
      refine q_iret hM dX10_ifDeleted_71 rfl rfl ?_
      first | exact absurd c2 c4 | exact ⟨by unfold ifV; rw [if_pos c1, if_neg c3, telX_en hEn (hO3 1 (by omega)) w], rfl, ⟨A, H3⟩, fun a ha => by rw [hO3 a (by omega), hF a (Or.inr ⟨by omega, Or.inr (by omega)⟩), hM1 a ha]⟩
    · refine q_sipush hJ (v := (-1002)) dX10_ifDeleted_22 (q := 25) rfl (by decide) ?_
      refine q_iret hM dX10_ifDeleted_25 rfl rfl ?_
      exact ⟨by unfold ifV; first | rw [if_pos c1, if_pos c3] | rw [if_neg c1, if_pos c2, if_pos c3], rfl, ⟨B, H⟩, fun a ha => rfl⟩
  · refine q_iload_n hJ dX10_ifDeleted_13 (q := 14) rfl rfl ?_
    refine q_iret hM dX10_ifDeleted_14 rfl rfl ?_
    exact ⟨by unfold ifV; rw [if_neg c1], rfl, ⟨B, H⟩, fun a ha => rfl⟩

set_option maxRecDepth 100000 in
set_option maxHeartbeats 400000 in
theorem S_ifUpd (k f v w : Int32) (A : AS) (hs : Nat → AS) (h : Nat) (sn : AS) (kp : Bool) (tx : Nat → Int32) (tn : Nat) (B : AS) (I : MI) (R : MR) (H : CYB I R A hs h sn kp tx tn B) : Sp 37 0 0 mX10_ifUpdated [.ref 0, .int k, .int f, .int v, .int w] g0 I R (CyP (ifU (updF A k f v) w (XR 1 (updI A k f v) A)) I (fun I' R' => ∃ B', CYB I' R' A hs h sn kp tx tn B')) := by
  have hFR := H.1
  have hk1 := ka1
  have hk2 := ka_sta isB2
  have hkt := ka_tbl isB2
  have hkr := ka_rls isB2
  have hkg := ka_log isB2
  have hk145 := ka145
  have hk315 := ka315
  have hx0 := hFR.2.1.1
  have hx1 := hFR.2.1.2.1
  have hx2 := hFR.2.1.2.2.1
  have hx4 := hFR.2.1.2.2.2.1
  have hx5 := hFR.2.1.2.2.2.2
  have he0 := hFR.2.2.1.1
  have hs0 : R 2 0 = some (2 + 1) := (hFR.1 2 isB2).1
  have hs1 : R 2 1 = some (2 + 23) := (hFR.1 2 isB2).2.1
  have hs2 : R 2 2 = some (2 + 38) := (hFR.1 2 isB2).2.2.1
  refine Sp.on (by decide +kernel) rfl rfl (fun J hM => ?_)
  have hJ := hM.ok
  refine q_aload_n hJ dX10_ifUpdated_0 (q := 1) rfl rfl (by first | rfl | exact isR_rr _) ?_
  refine q_getR hJ dX10_ifUpdated_1 (q := 4) rfl fl_X10_10 rfl (by first | assumption | exact ka_x) (by assumption) rfl ?_
  refine q_iload_n hJ dX10_ifUpdated_4 (q := 5) rfl rfl ?_
  refine q_iload_n hJ dX10_ifUpdated_5 (q := 6) rfl rfl ?_
  refine q_iload_n hJ dX10_ifUpdated_6 (q := 7) rfl rfl ?_
  refine q_callV hJ dX10_ifUpdated_7 (q := 10) rfl (S_updFault A k f v I R hFR H.2.2.2.1.2.1) imX0_updateFault ln_X10_206 hk1 (by decide) rfl rfl rfl rfl (Nat.le_of_ble_eq_true rfl) (by decide) (by decide) rfl rfl (fun rv gv Iv Rv hv => ?_)
  obtain ⟨rfl, rfl, rfl, rfl⟩ := hv
  refine q_istore hJ dX10_ifUpdated_10 (q := 12) rfl (by decide) ?_
  refine q_iload hJ dX10_ifUpdated_12 (q := 14) rfl rfl ?_
  refine q_if_eq hJ (tgt := 28) dX10_ifUpdated_14 (q := 17) rfl (by decide) (fun c1 => ?_) (fun c1 => ?_)
  · refine q_iload hJ dX10_ifUpdated_28 (q := 30) rfl rfl ?_
    refine q_callS hJ dX10_ifUpdated_30 (q := 33) rfl (S_isReport w I R) imX10_isReport ln_X10_200 rfl rfl rfl (Nat.le_of_ble_eq_true rfl) (by decide) (by decide) rfl rfl (fun rv gv Iv Rv hv => ?_)
    obtain ⟨rfl, rfl, rfl, rfl⟩ := hv
    refine q_if_ne hJ (tgt := 40) dX10_ifUpdated_33 (q := 36) rfl (by decide) (fun c3 => ?_) (fun c3 => ?_)
    · refine q_iload hJ dX10_ifUpdated_40 (q := 42) rfl rfl ?_
      refine q_sipush hJ (v := (-1006)) dX10_ifUpdated_42 (q := 45) rfl (by decide) ?_
      refine q_icmp_ne hJ (tgt := 52) dX10_ifUpdated_45 (q := 48) rfl (by decide) (fun c4 => ?_) (fun c4 => ?_)
      · refine q_aload_n hJ dX10_ifUpdated_52 (q := 53) rfl rfl (by first | rfl | exact isR_rr _) ?_
        refine q_getR hJ dX10_ifUpdated_53 (q := 56) rfl fl_X10_19 rfl (by first | assumption | exact ka_x) (by assumption) rfl ?_
        refine q_aload_n hJ dX10_ifUpdated_56 (q := 57) rfl rfl (by first | rfl | exact isR_rr _) ?_
        refine q_getR hJ dX10_ifUpdated_57 (q := 60) rfl fl_X10_10 rfl (by first | assumption | exact ka_x) (by assumption) rfl ?_
        refine q_getR hJ dX10_ifUpdated_60 (q := 63) rfl fl_X10_58 rfl (by first | assumption | exact ka_x) (by assumption) rfl ?_
        refine q_callV hJ dX10_ifUpdated_63 (q := 66) rfl (S_stateCopy 61 2 B A I R isB61 isB2 (by decide) hFR H.2.2.2.2.1 H.2.2.2.1 H.2.2.2.2.2.2.2.2.2.1) imX7_copyFrom ln_X10_114 (ka_sta isB61) (by decide) rfl rfl rfl rfl (Nat.le_of_ble_eq_true rfl) (by decide) (by decide) rfl rfl (fun rv gv Iv Rv hv => ?_)
        obtain ⟨rfl, rfl, rfl, hX, hO⟩ := hv
        have H1 : CYB Iv R A hs h sn kp tx tn A := H.put61 hX H.2.2.2.2.2.2.2.2.2.1 hO
        have hM1 : ∀ a, 317 ≤ a → Iv a = I a := fun a ha => hO a (by omega)
        refine q_aload_n hJ dX10_ifUpdated_66 (q := 67) rfl rfl (by first | rfl | exact isR_rr _) ?_
        refine q_getR hJ dX10_ifUpdated_67 (q := 70) rfl fl_X10_10 rfl (by first | assumption | exact ka_x) (by assumption) rfl ?_
        refine q_iload_n hJ dX10_ifUpdated_70 (q := 71) rfl rfl ?_
        refine q_iload_n hJ dX10_ifUpdated_71 (q := 72) rfl rfl ?_
        refine q_iload_n hJ dX10_ifUpdated_72 (q := 73) rfl rfl ?_
        refine q_callV hJ dX10_ifUpdated_73 (q := 76) rfl (S_runUpdate k f v A _ R hFR H1.2.2.2.1 H1.2.1 H1.2.2.1) imX0_runUpdate ln_X10_125 hk1 (by decide) rfl rfl rfl rfl (Nat.le_of_ble_eq_true rfl) (by decide) (by decide) rfl rfl (fun rv gv Iv Rv hv => ?_)
        rcases hv with ⟨hft, rfl, rfl, rfl, rfl⟩ | ⟨hft, rfl, rfl, hA2, hEn, hF, hR2, hFR2, hZ2⟩
        · first | exact absurd c1 hft | exact absurd c2 c4
        have H2 := H1.put2 hA2 (run_ok H1.2.2.2.2.2.2.2.2.2.1) hF hR2 hFR2 hZ2
        have hy0 := hFR2.2.1.1
        have hy1 := hFR2.2.1.2.1
        have hf0 := hFR2.2.2.1.1
        clear hx0 hx1 he0
        refine q_pop hJ dX10_ifUpdated_76 (q := 77) rfl rfl ?_
        refine q_aload_n hJ dX10_ifUpdated_77 (q := 78) rfl rfl (by first | rfl | exact isR_rr _) ?_
        refine q_getR hJ dX10_ifUpdated_78 (q := 81) rfl fl_X10_10 rfl (by first | assumption | exact ka_x) (by assumption) rfl ?_
        refine q_getR hJ dX10_ifUpdated_81 (q := 84) rfl fl_X10_58 rfl (by first | assumption | exact ka_x) (by assumption) rfl ?_
        refine q_aload_n hJ dX10_ifUpdated_84 (q := 85) rfl rfl (by first | rfl | exact isR_rr _) ?_
        refine q_getR hJ dX10_ifUpdated_85 (q := 88) rfl fl_X10_19 rfl (by first | assumption | exact ka_x) (by assumption) rfl ?_
        refine q_callV hJ dX10_ifUpdated_88 (q := 91) rfl (S_stateCopy 2 61 _ A _ _ isB2 isB61 (by decide) hFR2 H2.2.2.2.1 H2.2.2.2.2.1 H2.2.2.2.2.2.2.2.2.2.2.1) imX7_copyFrom ln_X10_114 hk2 (by decide) rfl rfl rfl rfl (Nat.le_of_ble_eq_true rfl) (by decide) (by decide) rfl rfl (fun rv gv Iv Rv hv => ?_)
        obtain ⟨rfl, rfl, rfl, hX3, hO3⟩ := hv
        have H3 := H2.st2 hX3 H2.2.2.2.2.2.2.2.2.2.2.1 hO3
        refine q_aload_n hJ dX10_ifUpdated_91 (q := 92) rfl rfl (by first | rfl | exact isR_rr _) ?_
        refine q_getR hJ dX10_ifUpdated_92 (q := 95) rfl fl_X10_10 rfl (by first | assumption | exact ka_x) (by assumption) rfl ?_
        refine q_iload hJ dX10_ifUpdated_95 (q := 97) rfl rfl ?_
        refine q_callV hJ dX10_ifUpdated_97 (q := 100) rfl (S_report w _ _) imX0_report ln_X10_203 hk1 (by decide) rfl rfl rfl rfl (Nat.le_of_ble_eq_true rfl) (by decide) (by decide) rfl rfl (fun rv gv Iv Rv hv => ?_)
        obtain ⟨rfl, rfl, rfl, rfl⟩ := hv
        refine q_iret hM dX10_ifUpdated_100 rfl rfl ?_
        first | exact absurd c2 c4 | exact ⟨by unfold ifU; rw [if_pos c1, if_neg c3, telX_en hEn (hO3 1 (by omega)) w], rfl, ⟨A, H3⟩, fun a ha => by rw [hO3 a (by omega), hF a (Or.inr ⟨by omega, Or.inr (by omega)⟩), hM1 a ha]⟩
      · refine q_sipush hJ (v := (-1006)) dX10_ifUpdated_48 (q := 51) rfl (by decide) ?_
        refine q_iret hM dX10_ifUpdated_51 rfl rfl ?_
        first
          | exact absurd (c1.symm.trans c4) (by decide)
          | exact ⟨by unfold ifU; rw [if_neg c1, if_pos c2, if_neg c3], rfl, ⟨B, H⟩, fun a ha => rfl⟩
    · refine q_sipush hJ (v := (-1002)) dX10_ifUpdated_36 (q := 39) rfl (by decide) ?_
      refine q_iret hM dX10_ifUpdated_39 rfl rfl ?_
      exact ⟨by unfold ifU; first | rw [if_pos c1, if_pos c3] | rw [if_neg c1, if_pos c2, if_pos c3], rfl, ⟨B, H⟩, fun a ha => rfl⟩
  · refine q_iload hJ dX10_ifUpdated_17 (q := 19) rfl rfl ?_
    refine q_sipush hJ (v := (-1006)) dX10_ifUpdated_19 (q := 22) rfl (by decide) ?_
    refine q_icmp_eq hJ (tgt := 28) dX10_ifUpdated_22 (q := 25) rfl (by decide) (fun c2 => ?_) (fun c2 => ?_)
    · refine q_iload hJ dX10_ifUpdated_28 (q := 30) rfl rfl ?_
      refine q_callS hJ dX10_ifUpdated_30 (q := 33) rfl (S_isReport w I R) imX10_isReport ln_X10_200 rfl rfl rfl (Nat.le_of_ble_eq_true rfl) (by decide) (by decide) rfl rfl (fun rv gv Iv Rv hv => ?_)
      obtain ⟨rfl, rfl, rfl, rfl⟩ := hv
      refine q_if_ne hJ (tgt := 40) dX10_ifUpdated_33 (q := 36) rfl (by decide) (fun c3 => ?_) (fun c3 => ?_)
      · refine q_iload hJ dX10_ifUpdated_40 (q := 42) rfl rfl ?_
        refine q_sipush hJ (v := (-1006)) dX10_ifUpdated_42 (q := 45) rfl (by decide) ?_
        refine q_icmp_ne hJ (tgt := 52) dX10_ifUpdated_45 (q := 48) rfl (by decide) (fun c4 => ?_) (fun c4 => ?_)
        · refine q_aload_n hJ dX10_ifUpdated_52 (q := 53) rfl rfl (by first | rfl | exact isR_rr _) ?_
          refine q_getR hJ dX10_ifUpdated_53 (q := 56) rfl fl_X10_19 rfl (by first | assumption | exact ka_x) (by assumption) rfl ?_
          refine q_aload_n hJ dX10_ifUpdated_56 (q := 57) rfl rfl (by first | rfl | exact isR_rr _) ?_
          refine q_getR hJ dX10_ifUpdated_57 (q := 60) rfl fl_X10_10 rfl (by first | assumption | exact ka_x) (by assumption) rfl ?_
          refine q_getR hJ dX10_ifUpdated_60 (q := 63) rfl fl_X10_58 rfl (by first | assumption | exact ka_x) (by assumption) rfl ?_
          refine q_callV hJ dX10_ifUpdated_63 (q := 66) rfl (S_stateCopy 61 2 B A I R isB61 isB2 (by decide) hFR H.2.2.2.2.1 H.2.2.2.1 H.2.2.2.2.2.2.2.2.2.1) imX7_copyFrom ln_X10_114 (ka_sta isB61) (by decide) rfl rfl rfl rfl (Nat.le_of_ble_eq_true rfl) (by decide) (by decide) rfl rfl (fun rv gv Iv Rv hv => ?_)
          obtain ⟨rfl, rfl, rfl, hX, hO⟩ := hv
          have H1 : CYB Iv R A hs h sn kp tx tn A := H.put61 hX H.2.2.2.2.2.2.2.2.2.1 hO
          have hM1 : ∀ a, 317 ≤ a → Iv a = I a := fun a ha => hO a (by omega)
          refine q_aload_n hJ dX10_ifUpdated_66 (q := 67) rfl rfl (by first | rfl | exact isR_rr _) ?_
          refine q_getR hJ dX10_ifUpdated_67 (q := 70) rfl fl_X10_10 rfl (by first | assumption | exact ka_x) (by assumption) rfl ?_
          refine q_iload_n hJ dX10_ifUpdated_70 (q := 71) rfl rfl ?_
          refine q_iload_n hJ dX10_ifUpdated_71 (q := 72) rfl rfl ?_
          refine q_iload_n hJ dX10_ifUpdated_72 (q := 73) rfl rfl ?_
          refine q_callV hJ dX10_ifUpdated_73 (q := 76) rfl (S_runUpdate k f v A _ R hFR H1.2.2.2.1 H1.2.1 H1.2.2.1) imX0_runUpdate ln_X10_125 hk1 (by decide) rfl rfl rfl rfl (Nat.le_of_ble_eq_true rfl) (by decide) (by decide) rfl rfl (fun rv gv Iv Rv hv => ?_)
          rcases hv with ⟨hft, rfl, rfl, rfl, rfl⟩ | ⟨hft, rfl, rfl, hA2, hEn, hF, hR2, hFR2, hZ2⟩
          · first | exact absurd c1 hft | exact absurd c2 c4
          have H2 := H1.put2 hA2 (run_ok H1.2.2.2.2.2.2.2.2.2.1) hF hR2 hFR2 hZ2
          have hy0 := hFR2.2.1.1
          have hy1 := hFR2.2.1.2.1
          have hf0 := hFR2.2.2.1.1
          clear hx0 hx1 he0
          refine q_pop hJ dX10_ifUpdated_76 (q := 77) rfl rfl ?_
          refine q_aload_n hJ dX10_ifUpdated_77 (q := 78) rfl rfl (by first | rfl | exact isR_rr _) ?_
          refine q_getR hJ dX10_ifUpdated_78 (q := 81) rfl fl_X10_10 rfl (by first | assumption | exact ka_x) (by assumption) rfl ?_
          refine q_getR hJ dX10_ifUpdated_81 (q := 84) rfl fl_X10_58 rfl (by first | assumption | exact ka_x) (by assumption) rfl ?_
          refine q_aload_n hJ dX10_ifUpdated_84 (q := 85) rfl rfl (by first | rfl | exact isR_rr _) ?_
          refine q_getR hJ dX10_ifUpdated_85 (q := 88) rfl fl_X10_19 rfl (by first | assumption | exact ka_x) (by assumption) rfl ?_
          refine q_callV hJ dX10_ifUpdated_88 (q := 91) rfl (S_stateCopy 2 61 _ A _ _ isB2 isB61 (by decide) hFR2 H2.2.2.2.1 H2.2.2.2.2.1 H2.2.2.2.2.2.2.2.2.2.2.1) imX7_copyFrom ln_X10_114 hk2 (by decide) rfl rfl rfl rfl (Nat.le_of_ble_eq_true rfl) (by decide) (by decide) rfl rfl (fun rv gv Iv Rv hv => ?_)
          obtain ⟨rfl, rfl, rfl, hX3, hO3⟩ := hv
          have H3 := H2.st2 hX3 H2.2.2.2.2.2.2.2.2.2.2.1 hO3
          refine q_aload_n hJ dX10_ifUpdated_91 (q := 92) rfl rfl (by first | rfl | exact isR_rr _) ?_
          refine q_getR hJ dX10_ifUpdated_92 (q := 95) rfl fl_X10_10 rfl (by first | assumption | exact ka_x) (by assumption) rfl ?_
          refine q_iload hJ dX10_ifUpdated_95 (q := 97) rfl rfl ?_
          refine q_callV hJ dX10_ifUpdated_97 (q := 100) rfl (S_report w _ _) imX0_report ln_X10_203 hk1 (by decide) rfl rfl rfl rfl (Nat.le_of_ble_eq_true rfl) (by decide) (by decide) rfl rfl (fun rv gv Iv Rv hv => ?_)
          obtain ⟨rfl, rfl, rfl, rfl⟩ := hv
          refine q_iret hM dX10_ifUpdated_100 rfl rfl ?_
          first | exact absurd c2 c4 | exact ⟨by unfold ifU; rw [if_pos c1, if_neg c3, telX_en hEn (hO3 1 (by omega)) w], rfl, ⟨A, H3⟩, fun a ha => by rw [hO3 a (by omega), hF a (Or.inr ⟨by omega, Or.inr (by omega)⟩), hM1 a ha]⟩
        · refine q_sipush hJ (v := (-1006)) dX10_ifUpdated_48 (q := 51) rfl (by decide) ?_
          refine q_iret hM dX10_ifUpdated_51 rfl rfl ?_
          first
            | exact absurd (c1.symm.trans c4) (by decide)
            | exact ⟨by unfold ifU; rw [if_neg c1, if_pos c2, if_neg c3], rfl, ⟨B, H⟩, fun a ha => rfl⟩
      · refine q_sipush hJ (v := (-1002)) dX10_ifUpdated_36 (q := 39) rfl (by decide) ?_
        refine q_iret hM dX10_ifUpdated_39 rfl rfl ?_
        exact ⟨by unfold ifU; first | rw [if_pos c1, if_pos c3] | rw [if_neg c1, if_pos c2, if_pos c3], rfl, ⟨B, H⟩, fun a ha => rfl⟩
    · refine q_iload hJ dX10_ifUpdated_25 (q := 27) rfl rfl ?_
      refine q_iret hM dX10_ifUpdated_27 rfl rfl ?_
      exact ⟨by unfold ifU; rw [if_neg c1, if_neg c2], rfl, ⟨B, H⟩, fun a ha => rfl⟩

