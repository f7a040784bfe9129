/-! CONSTRUCTORS, second part: history, engine, the object -/
theorem isB_h {j : Nat} (hj : j < 4) : isB (147 + 42 * j) := by
  rcases (show j = 0 ∨ j = 1 ∨ j = 2 ∨ j = 3 by omega) with rfl | rfl | rfl | rfl <;> (unfold isB; decide)
theorem lvK {d : Nat} (h1 : 1 ≤ d) (h8 : d ≤ 8) : K0 (61 - 2 * d) = (3, 0) ∧ K0 (61 - 2 * d + 1) = (4, 0) := by
  have key : ∀ d : Fin 9, 1 ≤ d.1 → K0 (61 - 2 * d.1) = (3, 0) ∧ K0 (61 - 2 * d.1 + 1) = (4, 0) := by decide
  exact key ⟨d, by omega⟩ h1
set_option maxRecDepth 100000 in
set_option maxHeartbeats 400000 in
theorem S_hisNew  (I : MI) (R : MR) : Sp 5 169 1868 mX2_init [.ref 145] (gp 146) I R (NwP 145 315 I R (fun I' R' => R' 145 0 = some 146 ∧ I' 145 = I 145 ∧ ∀ t, t < 4 → R' 146 t = some (147 + 42 * t) ∧ St0 I' R' (147 + 42 * t))) := by
  refine Sp.on (by decide +kernel) rfl rfl (fun J hM => ?_)
  have hJ := hM.ok
  have loop : ∀ (m j : Nat) (I' : MI) (R' : MR), m + j = 4 → (∀ a, a < 146 → I' a = I a) → (∀ a, a < 145 → R' a = R a) → R' 145 0 = some 146 → (∀ t, t < j → R' 146 t = some (147 + 42 * t) ∧ St0 I' R' (147 + 42 * t)) → J (1 + 42 * j) (4 + 466 * j) 14 [some (.ref 145), some (.int (nI j))] [] (gp (147 + 42 * j)) I' R' := by
    intro m
    induction m with
    | zero =>
      intro j I' R' hm hI hR hr0 he
      refine q_iload_n hJ dX2_init_14 (q := 15) rfl rfl ?_
      refine q_aload_n hJ dX2_init_15 (q := 16) rfl rfl (by first | rfl | exact isR_rr _) ?_
      refine q_getR hJ dX2_init_16 (q := 19) rfl fl_X2_11 rfl (kp (by omega) rfl) hr0 rfl ?_
      refine q_alen hJ (v := 4) dX2_init_19 (q := 20) rfl (kp (n := 147 + 42 * j) (k := 17) (N := 4) (by omega) rfl) (by decide) (by decide) (by decide) ?_
      refine q_icmp_ge hJ (tgt := 42) dX2_init_20 (q := 23) rfl (by decide) (fun _ => ?_) (fun c5 => absurd ((nI_leI (a := 4) (b := j) (by decide) (by omega)).mpr (by omega)) c5)
      have ej : j = 4 := by omega
      subst ej
      refine q_vret hM dX2_init_42 rfl ?_
      exact ⟨rfl, rfl, fun a ha => hI a (by omega), hR, hr0, hI 145 (by decide), he⟩
    | succ m ih =>
      intro j I' R' hm hI hR hr0 he
      refine q_iload_n hJ dX2_init_14 (q := 15) rfl rfl ?_
      refine q_aload_n hJ dX2_init_15 (q := 16) rfl rfl (by first | rfl | exact isR_rr _) ?_
      refine q_getR hJ dX2_init_16 (q := 19) rfl fl_X2_11 rfl (kp (by omega) rfl) hr0 rfl ?_
      refine q_alen hJ (v := 4) dX2_init_19 (q := 20) rfl (kp (n := 147 + 42 * j) (k := 17) (N := 4) (by omega) rfl) (by decide) (by decide) (by decide) ?_
      refine q_icmp_ge hJ (tgt := 42) dX2_init_20 (q := 23) rfl (by decide) (fun c5 => absurd ((nI_leI (a := 4) (b := j) (by decide) (by omega)).mp c5) (by omega)) (fun _ => ?_)
      refine q_aload_n hJ dX2_init_23 (q := 24) rfl rfl (by first | rfl | exact isR_rr _) ?_
      refine q_getR hJ dX2_init_24 (q := 27) rfl fl_X2_11 rfl (kp (by omega) rfl) hr0 rfl ?_
      refine q_iload_n hJ dX2_init_27 (q := 28) rfl rfl ?_
      have hj4 : j < 4 := by omega
      refine q_new hJ (ci := 7) dX2_init_28 (q := 31) rfl (by decide) cl_X2_9 nw_X7 ⟨(by show 1 + 42 * j + 1 ≤ 169; omega), (by show 4 + 466 * j + 9 ≤ 1868; omega)⟩ rfl rfl ?_
      rw [gp_N (n := 147 + 42 * j) (K_st (o := 0) (isB_h hj4) (by decide))]
      simp only [gp1]
      refine q_dup hJ dX2_init_31 (q := 32) rfl rfl ?_
      refine q_callIN hJ dX2_init_32 (q := 35) rfl (S_staNew (147 + 42 * j) (isB_h hj4) _ _ (zI_self _ _)) imX7_init (by decide +kernel) rfl rfl rfl (Nat.le_of_ble_eq_true rfl) (by decide) ⟨(by show 1 + 42 * j + 1 + 41 ≤ 169; omega), (by show 4 + 466 * j + 9 + 457 ≤ 1868; omega)⟩ rfl rfl (fun rv gv Iv Rv hv => ?_)
      obtain ⟨rfl, rfl, hI1, hR1, hS⟩ := hv
      rw [show 147 + 42 * j + 42 = 147 + 42 * (j + 1) by omega]
      refine q_aast hJ dX2_init_35 (q := 36) rfl (kp (k := 17) (N := 4) (by omega) rfl) (Or.inr <| Or.inr ⟨rfl, kp (by omega) (K_st (o := 0) (isB_h hj4) (by decide))⟩) (ix_nI (by omega) (by decide)) ?_
      refine q_iinc hJ dX2_init_36 (q := 39) rfl (by decide) rfl (nI_1 j) ?_
      refine q_goto hJ (tgt := 14) dX2_init_39 (by decide) ?_
      refine ih (j + 1) _ _ (by omega) (fun a ha => ?_) (fun a ha => ?_) ?_ (fun t ht => ?_)
      · rw [hI1 a (by omega), zI_o _ (by omega)]; exact hI a ha
      · rw [up2_other _ _ _ _ (by omega), hR1 a (by omega), zR_o _ (by omega)]; exact hR a ha
      · rw [up2_other _ _ _ _ (by decide), hR1 145 (by omega), zR_o _ (by omega)]; exact hr0
      · by_cases e : t = j
        · rw [e]; exact ⟨up2_self _ _ _ _, hS.agr (fun a _ _ => rfl) (fun a q1 _ => up2_other _ _ _ _ (by omega))⟩
        · obtain ⟨s1, s2⟩ := he t (by omega)
          refine ⟨by rw [up2_slot _ _ _ _ e, hR1 146 (by omega), zR_o _ (by omega)]; exact s1, s2.agr (fun a q1 q2 => by rw [hI1 a (by omega), zI_o _ (by omega)]) (fun a q1 q2 => by rw [up2_other _ _ _ _ (by omega), hR1 a (by omega), zR_o _ (by omega)])⟩
  refine q_aload_n hJ dX2_init_0 (q := 1) rfl rfl (by first | rfl | exact isR_rr _) ?_
  refine q_objInit hJ dX2_init_1 (q := 4) rfl ln_X2_3 ow rfl (Nat.le_of_ble_eq_true rfl) (by decide) ?_
  refine q_aload_n hJ dX2_init_4 (q := 5) rfl rfl (by first | rfl | exact isR_rr _) ?_
  refine q_iconst hJ (v := 4) dX2_init_5 (q := 6) rfl (by decide) ?_
  refine q_anew hJ (N := 4) (k := 17) dX2_init_6 (q := 9) rfl cl_X2_9 (by decide +kernel) (by decide +kernel) ⟨by decide, by decide⟩ (by decide) (by decide) rfl rfl ?_
  rw [gp_N (n := 146) rfl]
  simp only [gp1]
  refine q_putFR hJ (x := some 146) dX2_init_9 (q := 12) rfl fl_X2_11 rfl rfl rfl rfl (kp (by decide) rfl) rfl ?_
  refine q_iconst hJ (v := 0) dX2_init_12 (q := 13) rfl (by decide) ?_
  refine q_istore_n hJ dX2_init_13 (q := 14) rfl (by decide) ?_
  refine loop 4 0 _ _ rfl (fun a ha => by rw [zI_o _ (by omega)]) (fun a ha => by rw [up2_other _ _ _ _ (by omega), zR_o _ (by omega)]) (up2_self _ _ _ _) (fun t ht => absurd ht (by omega))

set_option maxRecDepth 100000 in
set_option maxHeartbeats 400000 in
theorem S_engNew  (I : MI) (R : MR) : Sp 5 59 534 mX0_init [.ref 1] (gp 2) I R (NwP 1 61 I R (fun I' R' => R' 1 0 = some 2 ∧ R' 1 1 = some 59 ∧ R' 1 2 = some 44 ∧ St0 I' R' 2 ∧ FZ I' ∧ ∀ e, 1 ≤ e → e ≤ 8 → I' (61 - 2 * e) 0 = nI e ∧ R' (61 - 2 * e) 2 = some (62 - 2 * e) ∧ R' (61 - 2 * e) 1 = if e = 8 then none else some (59 - 2 * e))) := by
  refine Sp.on (by decide +kernel) rfl rfl (fun J hM => ?_)
  have hJ := hM.ok
  have loop : ∀ (q : Nat), q ≤ 7 → ∀ (I' : MI) (R' : MR) (x : Option Nat) (cu su : Nat), x = (if q = 7 then none else some (57 - 2 * q)) → cu + 2 * q = 57 → su + 7 * q = 527 → (∀ a, a < 1 → I' a = I a) → (∀ a, a < 1 → R' a = R a) → R' 1 0 = some 2 → R' 1 2 = some 44 → St0 I' R' 2 → I' 44 = (fun _ => 0) → (∀ e, q + 1 < e → e ≤ 8 → I' (61 - 2 * e) 0 = nI e ∧ R' (61 - 2 * e) 2 = some (62 - 2 * e) ∧ R' (61 - 2 * e) 1 = if e = 8 then none else some (59 - 2 * e)) → J cu su 28 [some (.ref 1), some (rr x), some (.int (nI (q + 1)))] [] (gp (59 - 2 * q)) I' R' := by
    intro q
    induction q with
    | zero =>
      intro _ I' R' x cu su hx hc hs hI hR h10 h12 hSt h44 hl
      have hcu : cu = 57 := by omega
      have hsu : su = 527 := by omega
      subst hcu hsu
      refine q_iload_n hJ dX0_init_28 (q := 29) rfl rfl ?_
      refine q_iconst hJ (v := 1) dX0_init_29 (q := 30) rfl (by decide) ?_
      refine q_icmp_le hJ (tgt := 49) dX0_init_30 (q := 33) rfl (by decide) (fun _ => ?_) (fun c5 => absurd (show nI (0 + 1) ≤ 1 by decide) c5)
      refine q_aload_n hJ dX0_init_49 (q := 50) rfl rfl (by first | rfl | exact isR_rr _) ?_
      refine q_new hJ (ci := 3) dX0_init_50 (q := 53) rfl (by decide) cl_X0_22 nw_X3 (by decide) rfl rfl ?_
      rw [gp_N (n := 59) rfl]
      simp only [gp1]
      refine q_dup hJ dX0_init_53 (q := 54) rfl rfl ?_
      refine q_iconst hJ (v := 1) dX0_init_54 (q := 55) rfl (by decide) ?_
      refine q_aload_n hJ dX0_init_55 (q := 56) rfl rfl (by first | rfl | exact isR_rr _) ?_
      refine q_callI hJ dX0_init_56 (q := 59) rfl (S_lvlNew 59 1 x rfl rfl _ _) imX3_init ln_X0_24 rfl rfl rfl (Nat.le_of_ble_eq_true rfl) (by decide) (by decide) rfl rfl (fun rv gv Iv Rv hv => ?_)
      obtain ⟨rfl, rfl, rfl, rfl⟩ := hv
      refine q_putFR hJ (x := some 59) dX0_init_59 (q := 62) rfl fl_X0_27 rfl rfl rfl rfl (kp (by decide) rfl) rfl ?_
      refine q_vret hM dX0_init_62 rfl ?_
      refine ⟨rfl, rfl, fun a ha => ?_, fun a ha => ?_, ?_, up2_self _ _ _ _, ?_, ?_, fun r hr => ?_, fun d h1 h8 => ?_⟩
      · rw [up2_other _ _ _ _ (by omega), zI_o _ (by omega), zI_o _ (by omega)]; exact hI a ha
      · rw [up2_other _ _ _ _ (by omega), up2_other _ _ _ _ (by omega), up2_other _ _ _ _ (by omega), zR_o _ (by omega), zR_o _ (by omega)]; exact hR a ha
      · rw [up2_slot _ _ _ _ (by decide), up2_other _ _ _ _ (by omega), up2_other _ _ _ _ (by omega), zR_o _ (by omega), zR_o _ (by omega)]; exact h10
      · rw [up2_slot _ _ _ _ (by decide), up2_other _ _ _ _ (by omega), up2_other _ _ _ _ (by omega), zR_o _ (by omega), zR_o _ (by omega)]; exact h12
      · exact hSt.agr (fun a q1 q2 => by rw [up2_other _ _ _ _ (by omega), zI_o _ (by omega), zI_o _ (by omega)]) (fun a q1 q2 => by rw [up2_other _ _ _ _ (by omega), up2_other _ _ _ _ (by omega), up2_other _ _ _ _ (by omega), zR_o _ (by omega), zR_o _ (by omega)])
      · rw [up2_other _ _ _ _ (by omega), zI_o _ (by omega), zI_o _ (by omega)]; rw [h44]
      · by_cases e : d = 1
        · rw [e]
          exact ⟨up2_self _ _ _ _, by rw [up2_other _ _ _ _ (by decide), up2_slot _ _ _ _ (by decide), up2_self], by rw [up2_other _ _ _ _ (by decide), up2_self, hx]; rfl⟩
        · obtain ⟨l1, l2, l3⟩ := hl d (by omega) h8
          exact ⟨by rw [up2_other _ _ _ _ (by omega), zI_o _ (by omega), zI_o _ (by omega)]; exact l1, by rw [up2_other _ _ _ _ (by omega), up2_other _ _ _ _ (by omega), up2_other _ _ _ _ (by omega), zR_o _ (by omega), zR_o _ (by omega)]; exact l2, by rw [up2_other _ _ _ _ (by omega), up2_other _ _ _ _ (by omega), up2_other _ _ _ _ (by omega), zR_o _ (by omega), zR_o _ (by omega)]; exact l3⟩
    | succ q ih =>
      intro hq7 I' R' x cu su hx hc hs hI hR h10 h12 hSt h44 hl
      refine q_iload_n hJ dX0_init_28 (q := 29) rfl rfl ?_
      refine q_iconst hJ (v := 1) dX0_init_29 (q := 30) rfl (by decide) ?_
      refine q_icmp_le hJ (tgt := 49) dX0_init_30 (q := 33) rfl (by decide) (fun c5 => absurd ((nI_leI (a := q + 1 + 1) (b := 1) (by omega) (by decide)).mp c5) (by omega)) (fun _ => ?_)
      refine q_new hJ (ci := 3) dX0_init_33 (q := 36) rfl (by decide) cl_X0_22 nw_X3 ⟨(by show cu + 1 ≤ 59; omega), (by show su + 3 ≤ 534; omega)⟩ rfl rfl ?_
      rw [show 59 - 2 * (q + 1) = 61 - 2 * (q + 2) by omega, gp_N (lvK (d := q + 2) (by omega) (by omega)).1]
      simp only [gp1]
      refine q_dup hJ dX0_init_36 (q := 37) rfl rfl ?_
      refine q_iload_n hJ dX0_init_37 (q := 38) rfl rfl ?_
      refine q_aload_n hJ dX0_init_38 (q := 39) rfl rfl (by first | rfl | exact isR_rr _) ?_
      refine q_callI hJ dX0_init_39 (q := 42) rfl (S_lvlNew (61 - 2 * (q + 2)) (nI (q + 1 + 1)) x (lvK (d := q + 2) (by omega) (by omega)).1 (lvK (d := q + 2) (by omega) (by omega)).2 _ _) imX3_init ln_X0_24 rfl rfl rfl (Nat.le_of_ble_eq_true rfl) (by decide) ⟨(by show cu + 1 + 1 ≤ 59; omega), (by show su + 3 + 4 ≤ 534; omega)⟩ rfl rfl (fun rv gv Iv Rv hv => ?_)
      obtain ⟨rfl, rfl, rfl, rfl⟩ := hv
      rw [show 61 - 2 * (q + 2) + 2 = 59 - 2 * q by omega]
      refine q_astore_n hJ dX0_init_42 (q := 43) rfl (by decide) (by first | rfl | exact isR_rr _) ?_
      refine q_iinc hJ dX0_init_43 (q := 46) rfl (by decide) rfl (nI_m1 (q + 1)) ?_
      refine q_goto hJ (tgt := 28) dX0_init_46 (by decide) ?_
      refine ih (by omega) _ _ (some (61 - 2 * (q + 2))) _ _ (by rw [if_neg (by omega)]; congr 1; omega) (show cu + 1 + 1 + 2 * q = 57 by omega) (show su + 3 + 4 + 7 * q = 527 by omega) (fun a ha => ?_) (fun a ha => ?_) ?_ ?_ ?_ ?_ (fun e h1 h8 => ?_)
      · rw [up2_other _ _ _ _ (by omega), zI_o _ (by omega), zI_o _ (by omega)]; exact hI a ha
      · rw [up2_other _ _ _ _ (by omega), up2_other _ _ _ _ (by omega), zR_o _ (by omega), zR_o _ (by omega)]; exact hR a ha
      · rw [up2_other _ _ _ _ (by omega), up2_other _ _ _ _ (by omega), zR_o _ (by omega), zR_o _ (by omega)]; exact h10
      · rw [up2_other _ _ _ _ (by omega), up2_other _ _ _ _ (by omega), zR_o _ (by omega), zR_o _ (by omega)]; exact h12
      · exact hSt.agr (fun a q1 q2 => by rw [up2_other _ _ _ _ (by omega), zI_o _ (by omega), zI_o _ (by omega)]) (fun a q1 q2 => by rw [up2_other _ _ _ _ (by omega), up2_other _ _ _ _ (by omega), zR_o _ (by omega), zR_o _ (by omega)])
      · rw [up2_other _ _ _ _ (by omega), zI_o _ (by omega), zI_o _ (by omega)]; exact h44
      · by_cases e1 : e = q + 2
        · rw [e1]
          refine ⟨up2_self _ _ _ _, ?_, ?_⟩
          · rw [up2_slot _ _ _ _ (by decide), up2_self]; congr 1; omega
          · rw [up2_self, hx]
            by_cases e7 : q = 6
            · rw [if_pos (by omega), if_pos (by omega)]
            · rw [if_neg (by omega), if_neg (by omega)]; congr 1; omega
        · obtain ⟨l1, l2, l3⟩ := hl e (by omega) h8
          exact ⟨by rw [up2_other _ _ _ _ (by omega), zI_o _ (by omega), zI_o _ (by omega)]; exact l1, by rw [up2_other _ _ _ _ (by omega), up2_other _ _ _ _ (by omega), zR_o _ (by omega), zR_o _ (by omega)]; exact l2, by rw [up2_other _ _ _ _ (by omega), up2_other _ _ _ _ (by omega), zR_o _ (by omega), zR_o _ (by omega)]; exact l3⟩
  refine q_aload_n hJ dX0_init_0 (q := 1) rfl rfl (by first | rfl | exact isR_rr _) ?_
  refine q_objInit hJ dX0_init_1 (q := 4) rfl ln_X0_3 ow rfl (Nat.le_of_ble_eq_true rfl) (by decide) ?_
  refine q_aload_n hJ dX0_init_4 (q := 5) rfl rfl (by first | rfl | exact isR_rr _) ?_
  refine q_new hJ (ci := 7) dX0_init_5 (q := 8) rfl (by decide) cl_X0_9 nw_X7 (by decide) rfl rfl ?_
  rw [gp_N (n := 2) rfl]
  simp only [gp1]
  refine q_dup hJ dX0_init_8 (q := 9) rfl rfl ?_
  refine q_callIN hJ dX0_init_9 (q := 12) rfl (S_staNew 2 isB2 _ _ (zI_self _ _)) imX7_init (by decide +kernel) rfl rfl rfl (Nat.le_of_ble_eq_true rfl) (by decide) (by decide) rfl rfl (fun rv gv Iv Rv hv => ?_)
  obtain ⟨rfl, rfl, hI1, hR1, hS⟩ := hv
  refine q_putFR hJ (x := some 2) dX0_init_12 (q := 15) rfl fl_X0_12 rfl rfl rfl rfl (kp (by decide) rfl) rfl ?_
  refine q_aload_n hJ dX0_init_15 (q := 16) rfl rfl (by first | rfl | exact isR_rr _) ?_
  refine q_bipush hJ (v := 12) dX0_init_16 (q := 18) rfl (by decide) ?_
  refine q_newa (t0 := 0) hJ (N := 12) (k := 14) dX0_init_18 (q := 20) rfl rfl (by decide) ac_boolean ⟨by decide, by decide⟩ (by decide) (by decide) rfl rfl ?_
  rw [gp_N (n := 44) rfl]
  simp only [gp1]
  refine q_putFR hJ (x := some 44) dX0_init_20 (q := 23) rfl fl_X0_18 rfl rfl rfl rfl (kp (by decide) rfl) rfl ?_
  refine q_null hJ dX0_init_23 (q := 24) rfl ?_
  refine q_astore_n hJ dX0_init_24 (q := 25) rfl (by decide) (by first | rfl | exact isR_rr _) ?_
  refine q_bipush hJ (v := 8) dX0_init_25 (q := 27) rfl (by decide) ?_
  refine q_istore_n hJ dX0_init_27 (q := 28) rfl (by decide) ?_
  refine loop 7 (by decide) _ _ none _ _ rfl rfl rfl (fun a ha => ?_) (fun a ha => ?_) ?_ (up2_self _ _ _ _) ?_ (zI_self _ _) (fun e h1 h8 => absurd h8 (by omega))
  · rw [zI_o _ (by omega), hI1 a (by omega), zI_o _ (by omega)]
  · rw [up2_other _ _ _ _ (by omega), zR_o _ (by omega), up2_other _ _ _ _ (by omega), hR1 a (by omega), zR_o _ (by omega)]
  · rw [up2_slot _ _ _ _ (by decide), zR_o _ (by decide), up2_self]
  · exact hS.agr (fun a q1 q2 => by rw [zI_o _ (by omega)]) (fun a q1 q2 => by rw [up2_other _ _ _ _ (by omega), zR_o _ (by omega), up2_other _ _ _ _ (by omega)])

def Ob0 (I : MI) (R : MR) : Prop := (∀ b, isB b → St0 I R b) ∧ (R 0 0 = some 1 ∧ R 0 1 = some 61 ∧ R 0 2 = some 103 ∧ R 0 4 = some 145 ∧ R 0 5 = some 315) ∧ (R 1 0 = some 2 ∧ R 1 1 = some 59 ∧ R 1 2 = some 44) ∧ (R 145 0 = some 146 ∧ R 315 0 = some 316) ∧ (∀ e, 1 ≤ e → e ≤ 8 → I (61 - 2 * e) 0 = nI e ∧ R (61 - 2 * e) 2 = some (62 - 2 * e) ∧ R (61 - 2 * e) 1 = if e = 8 then none else some (59 - 2 * e)) ∧ FZ I ∧ I 0 3 = 0 ∧ (∀ t, t < 4 → R 146 t = some (147 + 42 * t)) ∧ I 145 1 = 0 ∧ I 315 1 = 0
set_option maxRecDepth 100000 in
set_option maxHeartbeats 400000 in
theorem S_objNew  (I : MI) (R : MR) (hb : I 0 = fun _ => 0) : Sp 6 316 3434 mX10_init [.ref 0] (gp 1) I R (NwP 0 317 I R (fun I' R' => Ob0 I' R')) := by
  refine Sp.on (by decide +kernel) rfl rfl (fun J hM => ?_)
  have hJ := hM.ok
  refine q_aload_n hJ dX10_init_0 (q := 1) rfl rfl (by first | rfl | exact isR_rr _) ?_
  refine q_objInit hJ dX10_init_1 (q := 4) rfl ln_X10_1 ow rfl (Nat.le_of_ble_eq_true rfl) (by decide) ?_
  refine q_aload_n hJ dX10_init_4 (q := 5) rfl rfl (by first | rfl | exact isR_rr _) ?_
  refine q_new hJ (ci := 0) dX10_init_5 (q := 8) rfl (by decide) cl_X10_7 nw_X0 (by decide) rfl rfl ?_
  rw [gp_N (n := 1) rfl]
  simp only [gp1]
  refine q_dup hJ dX10_init_8 (q := 9) rfl rfl ?_
  refine q_callI hJ dX10_init_9 (q := 12) rfl (S_engNew _ _) imX0_init ln_X10_9 rfl rfl rfl (Nat.le_of_ble_eq_true rfl) (by decide) (by decide) rfl rfl (fun rv gv Iv Rv hv => ?_)
  obtain ⟨rfl, rfl, hI1, hR1, ⟨h10, h11, h12, hS2, hZ, hL⟩⟩ := hv
  generalize Iv = I1 at *
  generalize Rv = R1 at *
  refine q_putFR hJ (x := some 1) dX10_init_12 (q := 15) rfl fl_X10_10 rfl rfl rfl rfl (kp (by decide) rfl) rfl ?_
  refine q_aload_n hJ dX10_init_15 (q := 16) rfl rfl (by first | rfl | exact isR_rr _) ?_
  refine q_new hJ (ci := 7) dX10_init_16 (q := 19) rfl (by decide) cl_X10_16 nw_X7 (by decide) rfl rfl ?_
  rw [gp_N (n := 61) rfl]
  simp only [gp1]
  refine q_dup hJ dX10_init_19 (q := 20) rfl rfl ?_
  refine q_callIN hJ dX10_init_20 (q := 23) rfl (S_staNew 61 isB61 _ _ (zI_self _ _)) imX7_init (by decide +kernel) rfl rfl rfl (Nat.le_of_ble_eq_true rfl) (by decide) (by decide) rfl rfl (fun rv gv Iv Rv hv => ?_)
  obtain ⟨rfl, rfl, hI2, hR2, hS61⟩ := hv
  generalize Iv = I2 at *
  generalize Rv = R2 at *
  refine q_putFR hJ (x := some 61) dX10_init_23 (q := 26) rfl fl_X10_19 rfl rfl rfl rfl (kp (by decide) rfl) rfl ?_
  refine q_aload_n hJ dX10_init_26 (q := 27) rfl rfl (by first | rfl | exact isR_rr _) ?_
  refine q_new hJ (ci := 7) dX10_init_27 (q := 30) rfl (by decide) cl_X10_16 nw_X7 (by decide) rfl rfl ?_
  rw [gp_N (n := 103) rfl]
  simp only [gp1]
  refine q_dup hJ dX10_init_30 (q := 31) rfl rfl ?_
  refine q_callIN hJ dX10_init_31 (q := 34) rfl (S_staNew 103 isB103 _ _ (zI_self _ _)) imX7_init (by decide +kernel) rfl rfl rfl (Nat.le_of_ble_eq_true rfl) (by decide) (by decide) rfl rfl (fun rv gv Iv Rv hv => ?_)
  obtain ⟨rfl, rfl, hI3, hR3, hS103⟩ := hv
  generalize Iv = I3 at *
  generalize Rv = R3 at *
  refine q_putFR hJ (x := some 103) dX10_init_34 (q := 37) rfl fl_X10_23 rfl rfl rfl rfl (kp (by decide) rfl) rfl ?_
  refine q_aload_n hJ dX10_init_37 (q := 38) rfl rfl (by first | rfl | exact isR_rr _) ?_
  refine q_new hJ (ci := 2) dX10_init_38 (q := 41) rfl (by decide) cl_X10_26 nw_X2 (by decide) rfl rfl ?_
  rw [gp_N (n := 145) rfl]
  simp only [gp1]
  refine q_dup hJ dX10_init_41 (q := 42) rfl rfl ?_
  refine q_callI hJ dX10_init_42 (q := 45) rfl (S_hisNew _ _) imX2_init ln_X10_28 rfl rfl rfl (Nat.le_of_ble_eq_true rfl) (by decide) (by decide) rfl rfl (fun rv gv Iv Rv hv => ?_)
  obtain ⟨rfl, rfl, hI4, hR4, ⟨hq1, hq2, hq3⟩⟩ := hv
  generalize Iv = I4 at *
  generalize Rv = R4 at *
  refine q_putFR hJ (x := some 145) dX10_init_45 (q := 48) rfl fl_X10_29 rfl rfl rfl rfl (kp (by decide) rfl) rfl ?_
  refine q_aload_n hJ dX10_init_48 (q := 49) rfl rfl (by first | rfl | exact isR_rr _) ?_
  refine q_new hJ (ci := 9) dX10_init_49 (q := 52) rfl (by decide) cl_X10_33 nw_X9 (by decide) rfl rfl ?_
  rw [gp_N (n := 315) rfl]
  simp only [gp1]
  refine q_dup hJ dX10_init_52 (q := 53) rfl rfl ?_
  refine q_callIN hJ dX10_init_53 (q := 56) rfl (S_txtNew _ _) imX9_init (by decide +kernel) rfl rfl rfl (Nat.le_of_ble_eq_true rfl) (by decide) (by decide) rfl rfl (fun rv gv Iv Rv hv => ?_)
  obtain ⟨rfl, rfl, hI5, hR5, ⟨hx1, hx2⟩⟩ := hv
  generalize Iv = I5 at *
  generalize Rv = R5 at *
  refine q_putFR hJ (x := some 315) dX10_init_56 (q := 59) rfl fl_X10_36 rfl rfl rfl rfl (kp (by decide) rfl) rfl ?_
  refine q_vret hM dX10_init_59 rfl ?_
  refine ⟨rfl, rfl, fun a ha => absurd ha (Nat.not_lt_zero _), fun a ha => absurd ha (Nat.not_lt_zero _), fun b hB => ?_, ⟨?_, ?_, ?_, ?_, ?_⟩, ⟨?_, ?_, ?_⟩, ⟨?_, ?_⟩, fun e e1 e8 => ?_, fun r hr => ?_, ?_, fun t ht => ?_, ?_, ?_⟩
  · rcases hB with rfl | rfl | rfl | rfl | rfl | rfl | rfl
    · exact hS2.agr (fun a q1 q2 => by rw [hI5 (a) (by omega), zI_o _ (show a ≠ 315 by omega), hI4 (a) (by omega), zI_o _ (show a ≠ 145 by omega), hI3 (a) (by omega), zI_o _ (show a ≠ 103 by omega), hI2 (a) (by omega), zI_o _ (show a ≠ 61 by omega)]) (fun a q1 q2 => by rw [up2_other _ _ _ _ (show a ≠ 0 by omega), hR5 (a) (by omega), zR_o _ (show a ≠ 315 by omega), up2_other _ _ _ _ (show a ≠ 0 by omega), hR4 (a) (by omega), zR_o _ (show a ≠ 145 by omega), up2_other _ _ _ _ (show a ≠ 0 by omega), hR3 (a) (by omega), zR_o _ (show a ≠ 103 by omega), up2_other _ _ _ _ (show a ≠ 0 by omega), hR2 (a) (by omega), zR_o _ (show a ≠ 61 by omega), up2_other _ _ _ _ (show a ≠ 0 by omega)])
    · exact hS61.agr (fun a q1 q2 => by rw [hI5 (a) (by omega), zI_o _ (show a ≠ 315 by omega), hI4 (a) (by omega), zI_o _ (show a ≠ 145 by omega), hI3 (a) (by omega), zI_o _ (show a ≠ 103 by omega)]) (fun a q1 q2 => by rw [up2_other _ _ _ _ (show a ≠ 0 by omega), hR5 (a) (by omega), zR_o _ (show a ≠ 315 by omega), up2_other _ _ _ _ (show a ≠ 0 by omega), hR4 (a) (by omega), zR_o _ (show a ≠ 145 by omega), up2_other _ _ _ _ (show a ≠ 0 by omega), hR3 (a) (by omega), zR_o _ (show a ≠ 103 by omega), up2_other _ _ _ _ (show a ≠ 0 by omega)])
    · exact hS103.agr (fun a q1 q2 => by rw [hI5 (a) (by omega), zI_o _ (show a ≠ 315 by omega), hI4 (a) (by omega), zI_o _ (show a ≠ 145 by omega)]) (fun a q1 q2 => by rw [up2_other _ _ _ _ (show a ≠ 0 by omega), hR5 (a) (by omega), zR_o _ (show a ≠ 315 by omega), up2_other _ _ _ _ (show a ≠ 0 by omega), hR4 (a) (by omega), zR_o _ (show a ≠ 145 by omega), up2_other _ _ _ _ (show a ≠ 0 by omega)])
    · have hh := (hq3 0 (by decide)).2
      exact hh.agr (fun a q1 q2 => by rw [hI5 (a) (by omega), zI_o _ (show a ≠ 315 by omega)]) (fun a q1 q2 => by rw [up2_other _ _ _ _ (show a ≠ 0 by omega), hR5 (a) (by omega), zR_o _ (show a ≠ 315 by omega), up2_other _ _ _ _ (show a ≠ 0 by omega)])
    · have hh := (hq3 1 (by decide)).2
      exact hh.agr (fun a q1 q2 => by rw [hI5 (a) (by omega), zI_o _ (show a ≠ 315 by omega)]) (fun a q1 q2 => by rw [up2_other _ _ _ _ (show a ≠ 0 by omega), hR5 (a) (by omega), zR_o _ (show a ≠ 315 by omega), up2_other _ _ _ _ (show a ≠ 0 by omega)])
    · have hh := (hq3 2 (by decide)).2
      exact hh.agr (fun a q1 q2 => by rw [hI5 (a) (by omega), zI_o _ (show a ≠ 315 by omega)]) (fun a q1 q2 => by rw [up2_other _ _ _ _ (show a ≠ 0 by omega), hR5 (a) (by omega), zR_o _ (show a ≠ 315 by omega), up2_other _ _ _ _ (show a ≠ 0 by omega)])
    · have hh := (hq3 3 (by decide)).2
      exact hh.agr (fun a q1 q2 => by rw [hI5 (a) (by omega), zI_o _ (show a ≠ 315 by omega)]) (fun a q1 q2 => by rw [up2_other _ _ _ _ (show a ≠ 0 by omega), hR5 (a) (by omega), zR_o _ (show a ≠ 315 by omega), up2_other _ _ _ _ (show a ≠ 0 by omega)])
  · rw [up2_slot _ _ _ _ (by decide), hR5 0 (by omega), zR_o _ (show 0 ≠ 315 by omega), up2_slot _ _ _ _ (by decide), hR4 0 (by omega), zR_o _ (show 0 ≠ 145 by omega), up2_slot _ _ _ _ (by decide), hR3 0 (by omega), zR_o _ (show 0 ≠ 103 by omega), up2_slot _ _ _ _ (by decide), hR2 0 (by omega), zR_o _ (show 0 ≠ 61 by omega), up2_self]
  · rw [up2_slot _ _ _ _ (by decide), hR5 0 (by omega), zR_o _ (show 0 ≠ 315 by omega), up2_slot _ _ _ _ (by decide), hR4 0 (by omega), zR_o _ (show 0 ≠ 145 by omega), up2_slot _ _ _ _ (by decide), hR3 0 (by omega), zR_o _ (show 0 ≠ 103 by omega), up2_self]
  · rw [up2_slot _ _ _ _ (by decide), hR5 0 (by omega), zR_o _ (show 0 ≠ 315 by omega), up2_slot _ _ _ _ (by decide), hR4 0 (by omega), zR_o _ (show 0 ≠ 145 by omega), up2_self]
  · rw [up2_slot _ _ _ _ (by decide), hR5 0 (by omega), zR_o _ (show 0 ≠ 315 by omega), up2_self]
  · rw [up2_self]
  · rw [up2_other _ _ _ _ (show 1 ≠ 0 by omega), hR5 (1) (by omega), zR_o _ (show 1 ≠ 315 by omega), up2_other _ _ _ _ (show 1 ≠ 0 by omega), hR4 (1) (by omega), zR_o _ (show 1 ≠ 145 by omega), up2_other _ _ _ _ (show 1 ≠ 0 by omega), hR3 (1) (by omega), zR_o _ (show 1 ≠ 103 by omega), up2_other _ _ _ _ (show 1 ≠ 0 by omega), hR2 (1) (by omega), zR_o _ (show 1 ≠ 61 by omega), up2_other _ _ _ _ (show 1 ≠ 0 by omega)]; exact h10
  · rw [up2_other _ _ _ _ (show 1 ≠ 0 by omega), hR5 (1) (by omega), zR_o _ (show 1 ≠ 315 by omega), up2_other _ _ _ _ (show 1 ≠ 0 by omega), hR4 (1) (by omega), zR_o _ (show 1 ≠ 145 by omega), up2_other _ _ _ _ (show 1 ≠ 0 by omega), hR3 (1) (by omega), zR_o _ (show 1 ≠ 103 by omega), up2_other _ _ _ _ (show 1 ≠ 0 by omega), hR2 (1) (by omega), zR_o _ (show 1 ≠ 61 by omega), up2_other _ _ _ _ (show 1 ≠ 0 by omega)]; exact h11
  · rw [up2_other _ _ _ _ (show 1 ≠ 0 by omega), hR5 (1) (by omega), zR_o _ (show 1 ≠ 315 by omega), up2_other _ _ _ _ (show 1 ≠ 0 by omega), hR4 (1) (by omega), zR_o _ (show 1 ≠ 145 by omega), up2_other _ _ _ _ (show 1 ≠ 0 by omega), hR3 (1) (by omega), zR_o _ (show 1 ≠ 103 by omega), up2_other _ _ _ _ (show 1 ≠ 0 by omega), hR2 (1) (by omega), zR_o _ (show 1 ≠ 61 by omega), up2_other _ _ _ _ (show 1 ≠ 0 by omega)]; exact h12
  · rw [up2_other _ _ _ _ (show 145 ≠ 0 by omega), hR5 (145) (by omega), zR_o _ (show 145 ≠ 315 by omega), up2_other _ _ _ _ (show 145 ≠ 0 by omega)]; exact hq1
  · rw [up2_other _ _ _ _ (show 315 ≠ 0 by omega)]; exact hx1
  · obtain ⟨l1, l2, l3⟩ := hL e e1 e8
    exact ⟨by rw [hI5 (61 - 2 * e) (by omega), zI_o _ (show 61 - 2 * e ≠ 315 by omega), hI4 (61 - 2 * e) (by omega), zI_o _ (show 61 - 2 * e ≠ 145 by omega), hI3 (61 - 2 * e) (by omega), zI_o _ (show 61 - 2 * e ≠ 103 by omega), hI2 (61 - 2 * e) (by omega), zI_o _ (show 61 - 2 * e ≠ 61 by omega)]; exact l1, by rw [up2_other _ _ _ _ (show 61 - 2 * e ≠ 0 by omega), hR5 (61 - 2 * e) (by omega), zR_o _ (show 61 - 2 * e ≠ 315 by omega), up2_other _ _ _ _ (show 61 - 2 * e ≠ 0 by omega), hR4 (61 - 2 * e) (by omega), zR_o _ (show 61 - 2 * e ≠ 145 by omega), up2_other _ _ _ _ (show 61 - 2 * e ≠ 0 by omega), hR3 (61 - 2 * e) (by omega), zR_o _ (show 61 - 2 * e ≠ 103 by omega), up2_other _ _ _ _ (show 61 - 2 * e ≠ 0 by omega), hR2 (61 - 2 * e) (by omega), zR_o _ (show 61 - 2 * e ≠ 61 by omega), up2_other _ _ _ _ (show 61 - 2 * e ≠ 0 by omega)]; exact l2, by rw [up2_other _ _ _ _ (show 61 - 2 * e ≠ 0 by omega), hR5 (61 - 2 * e) (by omega), zR_o _ (show 61 - 2 * e ≠ 315 by omega), up2_other _ _ _ _ (show 61 - 2 * e ≠ 0 by omega), hR4 (61 - 2 * e) (by omega), zR_o _ (show 61 - 2 * e ≠ 145 by omega), up2_other _ _ _ _ (show 61 - 2 * e ≠ 0 by omega), hR3 (61 - 2 * e) (by omega), zR_o _ (show 61 - 2 * e ≠ 103 by omega), up2_other _ _ _ _ (show 61 - 2 * e ≠ 0 by omega), hR2 (61 - 2 * e) (by omega), zR_o _ (show 61 - 2 * e ≠ 61 by omega), up2_other _ _ _ _ (show 61 - 2 * e ≠ 0 by omega)]; exact l3⟩
  · rw [hI5 (44) (by omega), zI_o _ (show 44 ≠ 315 by omega), hI4 (44) (by omega), zI_o _ (show 44 ≠ 145 by omega), hI3 (44) (by omega), zI_o _ (show 44 ≠ 103 by omega), hI2 (44) (by omega), zI_o _ (show 44 ≠ 61 by omega)]; exact hZ r hr
  · rw [hI5 (0) (by omega), zI_o _ (show 0 ≠ 315 by omega), hI4 (0) (by omega), zI_o _ (show 0 ≠ 145 by omega), hI3 (0) (by omega), zI_o _ (show 0 ≠ 103 by omega), hI2 (0) (by omega), zI_o _ (show 0 ≠ 61 by omega), hI1 (0) (by omega), zI_o _ (show 0 ≠ 1 by omega)]; rw [hb]
  · rw [up2_other _ _ _ _ (show 146 ≠ 0 by omega), hR5 (146) (by omega), zR_o _ (show 146 ≠ 315 by omega), up2_other _ _ _ _ (show 146 ≠ 0 by omega)]; exact (hq3 t ht).1
  · rw [hI5 (145) (by omega), zI_o _ (show 145 ≠ 315 by omega), hq2, zI_self]
  · rw [hx2, zI_self]

theorem Ob0.cyb {I I' : MI} {R R' : MR} (h : Ob0 I R) (h1 : ∀ a, a < 317 → I' a = I a) (h2 : ∀ a, a < 317 → R' a = R a) : CYB I' R' A0 (fun _ => A0) 0 A0 false (fun _ => 0) 0 A0 := by
  obtain ⟨s, r0, r1, r2, lv, fz, k3, hh, q1, x1⟩ := h
  have blt : ∀ b, isB b → b + 42 ≤ 317 := fun b hB => by rcases hB with rfl | rfl | rfl | rfl | rfl | rfl | rfl <;> decide
  have s' : ∀ b, isB b → St0 I' R' b := fun b hB => (s b hB).agr (fun a q1 q2 => h1 a (by have := blt b hB; omega)) (fun a q1 q2 => h2 a (by have := blt b hB; omega))
  have ok0 : okA A0 := fun j hj => absurd hj (Nat.not_lt_zero _)
  have e0 : ∀ a, a < 317 → R' a = R a := h2
  refine ⟨⟨fun b hB => (s' b hB).1, by rw [e0 0 (by omega)]; exact r0, by rw [e0 1 (by omega)]; exact r1, by rw [e0 145 (by omega), e0 315 (by omega)]; exact r2, fun d d1 d8 => by rw [e0 _ (by omega)]; exact (lv d d1 d8).2, trivial⟩, fun d d1 d8 => by rw [h1 _ (by omega)]; exact (lv d d1 d8).1, fun r hr => by rw [h1 44 (by omega)]; exact fz r hr, (s' 2 isB2).cs, (s' 61 isB61).cs, (s' 103 isB103).cs, by rw [h1 0 (by omega), k3]; rfl, ⟨by rw [h1 145 (by omega), q1]; rfl, by decide, fun t => 147 + 42 * t, fun j hj => ⟨by rw [e0 146 (by omega)]; exact hh j hj, ?_, fun i hi e => by have : 147 + 42 * i = 147 + 42 * j := e; omega⟩, fun j hj => (s' _ (isB_h hj)).cs⟩, ⟨by rw [h1 315 (by omega), x1]; rfl, by decide, fun i hi => absurd hi (Nat.not_lt_zero _)⟩, ok0, ok0, ok0, fun j hj => ok0⟩
  rcases (show j = 0 ∨ j = 1 ∨ j = 2 ∨ j = 3 by omega) with rfl | rfl | rfl | rfl <;> (unfold isH; decide)
