/-! THE MODEL: the text is performed -/
theorem cntF_ge (tx : Nat → Int32) (n : Nat) (k c : Nat) (P : PS) (F : Nat → Int32) : c ≤ (cntF tx n k c P F).2.1 := by
  induction k generalizing c P F with
  | zero => exact Nat.le_refl _
  | succ k ih =>
    unfold cntF
    split
    · exact Nat.le_succ _
    · exact Nat.le_trans (Nat.le_succ _) (ih _ _ _)
theorem bod_pos (tx : Nat → Int32) (n p : Nat) (F G : Nat → Int32) : (bodS tx n (p, false) F).1 = (bodS tx n (p, false) G).1 := by
  by_cases h0 : sgn tx n p = 100
  · rw [bod_d F h0, bod_d G h0]
  · by_cases h1 : sgn tx n p = 105
    · rw [bod_i F h1, bod_i G h1]
    · by_cases h2 : sgn tx n p = 117
      · rw [bod_u F h2, bod_u G h2]
      · rw [bod_x F h0 h1 h2, bod_x G h0 h1 h2]
theorem flt_ok {Z : PS × Nat × (Nat → Int32)} (hp : Z.1.1 ≤ 200) : fltV Z = -1006 ↔ Z.1.2 = false := by
  unfold fltV
  rcases hb : Z.1.2 with _ | _
  · simp
  · simp only [if_true]
    refine ⟨fun z => ?_, fun z => absurd z (by simp)⟩
    have key : ∀ n : Fin 201, ¬ nI n.1 = -1006 := by decide +kernel
    exact absurd z (key ⟨Z.1.1, by omega⟩)
theorem cnt_pos {tx : Nat → Int32} {n : Nat} (hn : n ≤ 80) (k c : Nat) (P : PS) (F : Nat → Int32) (h : P.1 ≤ n) : (cntF tx n k c P F).1.1 ≤ n + 1 := by
  have st : ∀ (P : PS) (F : Nat → Int32), P.1 ≤ n → (stmS tx n P F).1.1 ≤ n := fun P F hP => by
    have bod : ∀ (Q : PS), Q.1 ≤ n → (bodS tx n Q F).1.1 ≤ n := fun Q hQ => by
      by_cases h0 : hereF tx n Q = 100
      · have e : (bodS tx n Q F).1 = (numF2 tx n 2 (passF tx n 100 Q)).2 := by unfold bodS delS; rw [if_pos h0]
        have a1 := pass_mono (tx := tx) (c := 100) (P := Q) (by decide) hQ
        rw [e]
        exact (num_mono (tx := tx) (m := 2) a1.2).2
      · by_cases h1 : hereF tx n Q = 105
        · have e : (bodS tx n Q F).1 = (valF2 tx n (passF tx n 44 (valF2 tx n (passF tx n 44 (valF2 tx n (passF tx n 61 (numF2 tx n 2 (passF tx n 105 Q)).2)).2)).2)).2 := by unfold bodS insS; rw [if_neg h0, if_pos h1]
          have a0 := pass_mono (tx := tx) (c := 105) (P := Q) (by decide) hQ
          have a1 := num_mono (tx := tx) (m := 2) a0.2
          have a2 := pass_mono (tx := tx) (c := 61) (by decide) a1.2
          have a3 := val_mono (tx := tx) a2.2
          have a4 := pass_mono (tx := tx) (c := 44) (by decide) a3.2
          have a5 := val_mono (tx := tx) a4.2
          have a6 := pass_mono (tx := tx) (c := 44) (by decide) a5.2
          have a7 := val_mono (tx := tx) a6.2
          rw [e]
          exact a7.2
        · by_cases h2 : hereF tx n Q = 117
          · have e : (bodS tx n Q F).1 = (valF2 tx n (passF tx n 61 (digF tx n 2 (passF tx n 46 (numF2 tx n 2 (passF tx n 117 Q)).2)).2)).2 := by unfold bodS updS; rw [if_neg h0, if_neg h1, if_pos h2]
            have a0 := pass_mono (tx := tx) (c := 117) (P := Q) (by decide) hQ
            have a1 := num_mono (tx := tx) (m := 2) a0.2
            have a2 := pass_mono (tx := tx) (c := 46) (by decide) a1.2
            have a3 := digF_mono (tx := tx) (m := 2) a2.2
            have a4 := pass_mono (tx := tx) (c := 61) (by decide) a3.2
            have a5 := val_mono (tx := tx) a4.2
            rw [e]
            exact a5.2
          · have e : (bodS tx n Q F).1 = (Q.1, true) := by unfold bodS; rw [if_neg h0, if_neg h1, if_neg h2]
            rw [e]
            exact hQ
    unfold stmS
    split
    · exact bod _ (pass_mono (by decide) hP).2
    · exact bod _ hP
  induction k generalizing c P F with
  | zero => exact Nat.le_trans h (Nat.le_succ _)
  | succ k ih =>
    unfold cntF
    split
    · exact Nat.le_trans (st P F h) (Nat.le_succ _)
    · exact ih _ _ _ (st P F h)
set_option maxRecDepth 100000 in
set_option maxHeartbeats 1000000 in
theorem M_perform (F : Nat → Int32) (A : AS) (hs : Nat → AS) (h : Nat) (sn : AS) (kp : Bool) (tx : Nat → Int32) (tn : Nat) (I : MI) (R : MR) (hFR : FR R) (H : MOD I A hs h sn kp tx tn) : Sp 10 0 0 mX11_perform [.ref 317] g0 I R (MoP (prfV A tx tn F) I R (fun I' => (prfOk A tx tn F ∧ MOD I' (prfX A tx tn F).2 (pushH hs h A) (pushN h) sn kp tx tn) ∨ (¬ prfOk A tx tn F ∧ MOD I' A hs h sn kp tx tn))) := by
  have hm0 := hFR.2.2.2.2.2.1
  have hm1 := hFR.2.2.2.2.2.2.1
  have hm3 := hFR.2.2.2.2.2.2.2.1
  have hm5 := hFR.2.2.2.2.2.2.2.2.1
  have hm7 := hFR.2.2.2.2.2.2.2.2.2
  have hT : TXM I tx tn := H.2.2.2.2
  have t1 := hT.1
  have t2 := hT.2.1
  obtain ⟨Z, hZ⟩ : ∃ Z, Z = cntR tx tn F := ⟨_, rfl⟩
  have hz80 : Z.1.1 ≤ 200 := by rw [hZ]; exact Nat.le_trans (cnt_pos t2 80 0 P0 F (Nat.zero_le _)) (by omega)
  refine Sp.on (by decide +kernel) rfl rfl (fun J hM => ?_)
  have hJ := hM.ok
  have ex : Z.1.2 = false → ¬ cntV Z < 0 → ∀ (I' : MI) (A' : AS) (c p : Nat) (y : Option Value), MOD I' A hs h sn kp tx tn → MS (I' 318) 413 A' → okM A' → (∀ a, a < 317 → I' a = I a) → tn ≤ p → p < 300 → Z.2.1 = c → prfX A tx tn F = (0, A') → J 0 0 30 [some (.ref 317), some (.int (fltV Z)), some (.int (nI c)), some (.int (nI p)), y] [] g0 I' R := by
    intro hzb hcv I' A' c p y H' hm' ok' hlo hpn hp3 hc hpx
    refine q_iload_n hJ dX11_perform_30 (q := 31) rfl rfl ?_
    refine q_aload_n hJ dX11_perform_31 (q := 32) rfl rfl (by first | rfl | exact isR_rr _) ?_
    refine q_getI hJ dX11_perform_32 (q := 35) rfl fl_X11_161 rfl (by first | exact ka317 | exact ka318 | exact ka319 | exact ka320 | exact ka321 | exact ka322) H'.2.2.2.2.1 ?_
    refine q_icmp_ge hJ (tgt := 75) dX11_perform_35 (q := 38) rfl (by decide) (fun _ => ?_) (fun c5 => absurd (nI_le (show tn ≤ p from hpn) (by omega)) c5)
    refine q_aload_n hJ dX11_perform_75 (q := 76) rfl rfl (by first | rfl | exact isR_rr _) ?_
    refine q_callV hJ dX11_perform_76 (q := 79) rfl (M_lays A' A hs h sn kp tx tn I' R hFR H' hm' ok') imX11_lays ln_X11_123 (by first | exact ka317 | exact ka318 | exact ka319 | exact ka320 | exact ka321 | exact ka322) (by decide) rfl rfl rfl rfl (Nat.le_of_ble_eq_true rfl) (by decide) (by decide) rfl rfl (fun rv gv Iv Rv hv => ?_)
    obtain ⟨rfl, rfl, rfl, H2, ho, ho7⟩ := hv
    refine q_iload_n hJ dX11_perform_79 (q := 80) rfl rfl ?_
    refine q_iret hM dX11_perform_80 rfl rfl ?_
    refine ⟨iv ?_, rfl, rfl, fun a ha => (ho a (by omega) (by omega) (by omega)).trans (hlo a ha), Or.inl ⟨⟨by rw [← hZ]; exact hcv, by rw [hpx]; exact (show ¬ (0 : Int32) < 0 by decide)⟩, by rw [hpx]; exact H2⟩⟩
    rw [prfV, ← hZ, if_neg hcv, hpx, if_neg (show ¬ (0 : Int32) < 0 by decide), cntV, if_neg (by rw [hzb]; simp), hc]
  have loop : Z.1.2 = false → ¬ cntV Z < 0 → ∀ (k c m p : Nat) (P : PS) (Fc Fp : Nat → Int32) (A' : AS) (I' : MI) (y : Option Value), k + c = 80 → 2 * c ≤ p → p ≤ tn + 1 → At tx tn P p → cntF tx tn k c P Fc = Z → c + m = Z.2.1 → 1 ≤ k → prfX A tx tn F = prfL tx tn m P Fp A' → MOD I' A hs h sn kp tx tn → MS (I' 318) 413 A' → okM A' → (∀ a, a < 317 → I' a = I a) → J 0 0 30 [some (.ref 317), some (.int (fltV Z)), some (.int (nI c)), some (.int (nI p)), y] [] g0 I' R := by
    intro hzb hcv k
    induction k with
    | zero =>
      intro c m p P Fc Fp A' I' y hm h2c hpn hat hcn hcm h1k hr H' hm' ok' hlo
      omega
    | succ k ih =>
      intro c m p P Fc Fp A' I' y hm h2c hpn hat hcn hcm h1k hr H' hm' ok' hlo
      have hst := hat.stm (F := Fc)
      have hmo := bod_mono (tx := tx) (n := tn) Fc hpn
      rw [cntF, hst] at hcn
      have hb1 : (bodS tx tn (p, false) Fc).1.2 = false := by
        rcases hb : (bodS tx tn (p, false) Fc).1.2 with _ | _
        · rfl
        · rw [if_pos (Or.inl hb)] at hcn
          rw [← hcn] at hzb
          exact absurd (hb.symm.trans hzb) (by simp)
      obtain ⟨⟨e, b⟩, hE⟩ : ∃ E : PS, E = (bodS tx tn (p, false) Fc).1 := ⟨_, rfl⟩
      rw [← hE] at hb1 hmo
      have hb2 : b = false := hb1
      subst hb2
      have hpe : p + 1 ≤ e ∧ e ≤ tn := hmo.2 rfl
      have hxp : (bodS tx tn (p, false) Fp).1 = (e, false) := (bod_pos tx tn p Fp Fc).trans hE.symm
      have hk1 : 1 ≤ k := by omega
      have hcase : (e = tn ∧ Z.2.1 = c + 1) ∨ (e < tn ∧ sgn tx tn e = 59 ∧ cntF tx tn k (c + 1) (e, false) (bodS tx tn (p, false) Fc).2 = Z) := by
        by_cases hen : tn ≤ e
        · rw [if_pos (Or.inr (Or.inl (by rw [← hE]; exact hen)))] at hcn
          exact Or.inl ⟨by omega, by rw [← hcn]⟩
        · rw [← hE, if_neg (by rintro (z | z | z); exact absurd z (by simp); exact hen z; omega)] at hcn
          refine Or.inr ⟨by omega, ?_, hcn⟩
          refine Decidable.byContradiction fun hs => ?_
          obtain ⟨k2, rfl⟩ : ∃ t, k = t + 1 := ⟨k - 1, by omega⟩
          rw [cntF, stm_bad (by omega) hs, if_pos (Or.inl rfl)] at hcn
          rw [← hcn] at hzb
          exact absurd hzb (by simp)
      have he : dgF (sgn tx tn e) 9 = 0 := by
        rcases hcase with ⟨z, _⟩ | ⟨_, z, _⟩
        · rw [sgn_out (by omega)]; decide
        · rw [z]; decide
      have hm1 : ∃ m', m = m' + 1 ∧ (∀ x : Unit, True) := by
        rcases hcase with ⟨_, z⟩ | ⟨_, _, z⟩
        · exact ⟨0, by omega, fun _ => trivial⟩
        · have := cntF_ge tx tn k (c + 1) (e, false) (bodS tx tn (p, false) Fc).2
          rw [z] at this
          exact ⟨m - 1, by omega, fun _ => trivial⟩
      obtain ⟨m', hm1, _⟩ := hm1
      have next : ∀ (Iv : MI), MOD Iv A hs h sn kp tx tn → (∀ a, a < 317 → Iv a = I a) → MS (Iv 318) 413 (psA A' (bodS tx tn (p, false) Fp).2) → okM (psA A' (bodS tx tn (p, false) Fp).2) → (¬ psR A' (bodS tx tn (p, false) Fp).2 < 0 ∨ psR A' (bodS tx tn (p, false) Fp).2 = -1006) → ∀ y, J 0 0 30 [some (.ref 317), some (.int (fltV Z)), some (.int (nI (c + 1))), some (.int (nI (e + 1))), y] [] g0 Iv R := by
        intro Iv H2 hlo2 hm2 ok2 hgo y
        have hr2 : prfX A tx tn F = prfL tx tn m' (e, false) (bodS tx tn (p, false) Fp).2 (psA A' (bodS tx tn (p, false) Fp).2) := by
          rw [hr, hm1, prfL, hat.stm, if_neg (fun z => hgo.elim (fun q => q z.1) (fun q => z.2 q)), hxp]
        rcases hcase with ⟨z1, z2⟩ | ⟨z1, z2, z3⟩
        · refine ex hzb hcv Iv _ (c + 1) (e + 1) y H2 hm2 ok2 hlo2 (by omega) (by omega) z2 ?_
          rw [hr2, show m' = 0 by omega]; rfl
        · exact ih (c + 1) m' (e + 1) (e, false) _ _ _ Iv y (by omega) (by omega) (by omega) ⟨rfl, Or.inr ⟨by show 0 < e; omega, rfl, z2⟩⟩ z3 (by omega) hk1 hr2 H2 hm2 ok2 hlo2
      refine q_iload_n hJ dX11_perform_30 (q := 31) rfl rfl ?_
      refine q_aload_n hJ dX11_perform_31 (q := 32) rfl rfl (by first | rfl | exact isR_rr _) ?_
      refine q_getI hJ dX11_perform_32 (q := 35) rfl fl_X11_161 rfl (by first | exact ka317 | exact ka318 | exact ka319 | exact ka320 | exact ka321 | exact ka322) H'.2.2.2.2.1 ?_
      refine q_icmp_ge hJ (tgt := 75) dX11_perform_35 (q := 38) rfl (by decide) (fun c5 => absurd ((nI_leI (a := tn) (b := p) (by omega) (by omega)).mp c5) (by omega)) (fun _ => ?_)
      refine q_aload_n hJ dX11_perform_38 (q := 39) rfl rfl (by first | rfl | exact isR_rr _) ?_
      refine q_iload_n hJ dX11_perform_39 (q := 40) rfl rfl ?_
      refine q_callV hJ dX11_perform_40 (q := 43) rfl (M_does tx tn p e Fp A' I' R hFR H'.2.2.2.2 hm' ok' hpn hxp he) imX11_does ln_X11_198 (by first | exact ka317 | exact ka318 | exact ka319 | exact ka320 | exact ka321 | exact ka322) (by decide) rfl rfl rfl rfl (Nat.le_of_ble_eq_true rfl) (by decide) (by decide) rfl rfl (fun rv gv Iv Rv hv => ?_)
      obtain ⟨rfl, rfl, hk, hd⟩ := hv
      have H2 := H'.kp hk
      have hlo2 : ∀ a, a < 317 → Iv a = I a := fun a ha => (hk.low a ha).trans (hlo a ha)
      rcases hd with ⟨n1, n2, rfl⟩ | ⟨hgo, rfl, hm2, ok2⟩
      · skip
        refine q_istore hJ dX11_perform_43 (q := 45) rfl (by decide) ?_
        refine q_iload hJ dX11_perform_45 (q := 47) rfl rfl ?_
        refine q_if_eq hJ (tgt := 61) dX11_perform_47 (q := 50) rfl (by decide) (fun d1 => absurd d1 (fun z => absurd n1 (by rw [z]; decide))) (fun _ => ?_)
        refine q_iload hJ dX11_perform_50 (q := 52) rfl rfl ?_
        refine q_sipush hJ (v := (-1006)) dX11_perform_52 (q := 55) rfl (by decide) ?_
        refine q_icmp_eq hJ (tgt := 61) dX11_perform_55 (q := 58) rfl (by decide) (fun d2 => absurd d2 n2) (fun _ => ?_)
        refine q_iload hJ dX11_perform_58 (q := 60) rfl rfl ?_
        refine q_iret hM dX11_perform_60 rfl rfl ?_
        have hpx : prfX A tx tn F = (psR A' (bodS tx tn (p, false) Fp).2, psA A' (bodS tx tn (p, false) Fp).2) := by
            rw [hr, hm1, prfL, hat.stm, if_pos ⟨n1, n2⟩]
        refine ⟨iv ?_, rfl, rfl, hlo2, Or.inr ⟨fun z => z.2 (by rw [hpx]; exact n1), H2⟩⟩
        rw [prfV, ← hZ, if_neg hcv, hpx, if_pos n1]
      · by_cases h6 : psR A' (bodS tx tn (p, false) Fp).2 = -1006
        · rw [if_pos h6]
          refine q_istore hJ dX11_perform_43 (q := 45) rfl (by decide) ?_
          refine q_iload hJ dX11_perform_45 (q := 47) rfl rfl ?_
          refine q_if_eq hJ (tgt := 61) dX11_perform_47 (q := 50) rfl (by decide) (fun d1 => absurd d1 (by decide)) (fun _ => ?_)
          refine q_iload hJ dX11_perform_50 (q := 52) rfl rfl ?_
          refine q_sipush hJ (v := (-1006)) dX11_perform_52 (q := 55) rfl (by decide) ?_
          refine q_icmp_eq hJ (tgt := 61) dX11_perform_55 (q := 58) rfl (by decide) (fun _ => ?_) (fun d2 => absurd rfl d2)
          refine q_iinc hJ dX11_perform_61 (q := 64) rfl (by decide) rfl (nI_1 c) ?_
          refine q_aload_n hJ dX11_perform_64 (q := 65) rfl rfl (by first | rfl | exact isR_rr _) ?_
          refine q_iload_n hJ dX11_perform_65 (q := 66) rfl rfl ?_
          refine q_callV hJ dX11_perform_66 (q := 69) rfl (M_statementEnd tx tn p hpn Fp Iv R hFR H2.2.2.2.2) imX11_statementEnd ln_X11_189 (by first | exact ka317 | exact ka318 | exact ka319 | exact ka320 | exact ka321 | exact ka322) (by decide) rfl rfl rfl rfl (Nat.le_of_ble_eq_true rfl) (by decide) (by decide) rfl rfl (fun rv gv Iv Rv hv => ?_)
          obtain ⟨rfl, rfl, rfl, rfl⟩ := hv
          rw [hxp, show enc (e, false) = nI e from rfl]
          refine q_iconst hJ (v := 1) dX11_perform_69 (q := 70) rfl (by decide) ?_
          refine q_iadd hJ dX11_perform_70 (q := 71) rfl ?_
          rw [nI_1 e]
          refine q_istore_n hJ dX11_perform_71 (q := 72) rfl (by decide) ?_
          refine q_goto hJ (tgt := 30) dX11_perform_72 (by decide) ?_
          exact next Iv H2 hlo2 hm2 ok2 hgo _
        · rw [if_neg h6]
          refine q_istore hJ dX11_perform_43 (q := 45) rfl (by decide) ?_
          refine q_iload hJ dX11_perform_45 (q := 47) rfl rfl ?_
          refine q_if_eq hJ (tgt := 61) dX11_perform_47 (q := 50) rfl (by decide) (fun _ => ?_) (fun d1 => absurd rfl d1)
          refine q_iinc hJ dX11_perform_61 (q := 64) rfl (by decide) rfl (nI_1 c) ?_
          refine q_aload_n hJ dX11_perform_64 (q := 65) rfl rfl (by first | rfl | exact isR_rr _) ?_
          refine q_iload_n hJ dX11_perform_65 (q := 66) rfl rfl ?_
          refine q_callV hJ dX11_perform_66 (q := 69) rfl (M_statementEnd tx tn p hpn Fp Iv R hFR H2.2.2.2.2) imX11_statementEnd ln_X11_189 (by first | exact ka317 | exact ka318 | exact ka319 | exact ka320 | exact ka321 | exact ka322) (by decide) rfl rfl rfl rfl (Nat.le_of_ble_eq_true rfl) (by decide) (by decide) rfl rfl (fun rv gv Iv Rv hv => ?_)
          obtain ⟨rfl, rfl, rfl, rfl⟩ := hv
          rw [hxp, show enc (e, false) = nI e from rfl]
          refine q_iconst hJ (v := 1) dX11_perform_69 (q := 70) rfl (by decide) ?_
          refine q_iadd hJ dX11_perform_70 (q := 71) rfl ?_
          rw [nI_1 e]
          refine q_istore_n hJ dX11_perform_71 (q := 72) rfl (by decide) ?_
          refine q_goto hJ (tgt := 30) dX11_perform_72 (by decide) ?_
          exact next Iv H2 hlo2 hm2 ok2 hgo _
  refine q_aload_n hJ dX11_perform_0 (q := 1) rfl rfl (by first | rfl | exact isR_rr _) ?_
  refine q_callV hJ dX11_perform_1 (q := 4) rfl (M_fault tx tn F I R hFR hT) imX11_fault ln_X11_195 (by first | exact ka317 | exact ka318 | exact ka319 | exact ka320 | exact ka321 | exact ka322) (by decide) rfl rfl rfl rfl (Nat.le_of_ble_eq_true rfl) (by decide) (by decide) rfl rfl (fun rv gv Iv Rv hv => ?_)
  obtain ⟨rfl, rfl, rfl, rfl⟩ := hv
  rw [← hZ]
  refine q_istore_n hJ dX11_perform_4 (q := 5) rfl (by decide) ?_
  refine q_iload_n hJ dX11_perform_5 (q := 6) rfl rfl ?_
  refine q_sipush hJ (v := (-1006)) dX11_perform_6 (q := 9) rfl (by decide) ?_
  refine q_icmp_eq hJ (tgt := 18) dX11_perform_9 (q := 12) rfl (by decide) (fun c1 => ?_) (fun c1 => ?_)
  · refine q_aload_n hJ dX11_perform_18 (q := 19) rfl rfl (by first | rfl | exact isR_rr _) ?_
    refine q_iconst hJ (v := 0) dX11_perform_19 (q := 20) rfl (by decide) ?_
    refine q_sipush hJ (v := 413) dX11_perform_20 (q := 23) rfl (by decide) ?_
    refine q_callV hJ dX11_perform_23 (q := 26) rfl (M_copies 0 413 (Or.inl ⟨rfl, rfl⟩) I R hFR) imX11_copies ln_X11_36 (by first | exact ka317 | exact ka318 | exact ka319 | exact ka320 | exact ka321 | exact ka322) (by decide) rfl rfl rfl rfl (Nat.le_of_ble_eq_true rfl) (by decide) (by decide) rfl rfl (fun rv gv Iv Rv hv => ?_)
    obtain ⟨rfl, rfl, rfl, rfl⟩ := hv
    have hB := H.beside
    have H1 := H.kp (kp_copy I)
    refine q_iconst hJ (v := 0) dX11_perform_26 (q := 27) rfl (by decide) ?_
    refine q_istore_n hJ dX11_perform_27 (q := 28) rfl (by decide) ?_
    refine q_iconst hJ (v := 0) dX11_perform_28 (q := 29) rfl (by decide) ?_
    refine q_istore_n hJ dX11_perform_29 (q := 30) rfl (by decide) ?_
    have hzb : Z.1.2 = false := (flt_ok hz80).mp c1
    have hcv : ¬ cntV Z < 0 := by
      rw [cntV, if_neg (by rw [hzb]; simp)]
      have hc80 : Z.2.1 ≤ 0 + 80 := by rw [hZ]; exact cntF_c tx tn 80 0 P0 F
      exact nI_pos (by omega)
    exact loop hzb hcv 80 0 Z.2.1 0 P0 F (cntR tx tn F).2.2 A _ _ rfl (Nat.le_refl 0) (by omega) ⟨rfl, Or.inl ⟨rfl, rfl⟩⟩ hZ.symm (Nat.zero_add _) (by decide) (by rw [prfX, ← hZ]) H1 hB H.2.1 (fun a ha => (kp_copy I).low a ha)
  · refine q_sipush hJ (v := (-2000)) dX11_perform_12 (q := 15) rfl (by decide) ?_
    refine q_iload_n hJ dX11_perform_15 (q := 16) rfl rfl ?_
    refine q_isub hJ dX11_perform_16 (q := 17) rfl ?_
    refine q_iret hM dX11_perform_17 rfl rfl ?_
    have hzb : Z.1.2 = true := by
        rcases hb : Z.1.2 with _ | _
        · exact absurd ((flt_ok hz80).mpr hb) c1
        · rfl
    have hv1 : cntV Z = -2000 - nI Z.1.1 := if_pos hzb
    have hv2 : fltV Z = nI Z.1.1 := if_pos hzb
    have hneg : cntV Z < 0 := by
        rw [hv1]
        have key : ∀ n : Fin 201, (-2000 : Int32) - nI n.1 < 0 := by decide +kernel
        exact key ⟨Z.1.1, by omega⟩
    refine ⟨iv ?_, rfl, rfl, fun _ _ => rfl, Or.inr ⟨fun z => z.1 (by rw [← hZ]; exact hneg), H⟩⟩
    rw [prfV, ← hZ, if_pos hneg, hv1, hv2]

