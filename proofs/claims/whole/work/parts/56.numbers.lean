/-! THE MODEL: numbers of the text; a statement of the text is done -/
theorem nm_rng {tx : Nat → Int32} {n B : Nat} (hB : B ≤ 1000) (k w : Nat) (P : PS) (h : (w + 1) * 10 ^ k ≤ B) : ∃ w', w' + 1 ≤ B ∧ (nmF tx n k (nI w) P).1 = nI w' := by
  induction k generalizing w P with
  | zero => exact ⟨w, by simpa using h, rfl⟩
  | succ k ih =>
    have hw : w + 1 ≤ B := Nat.le_trans (Nat.le_mul_of_pos_right _ (Nat.pow_pos (by decide))) h
    unfold nmF
    split
    · split
      · exact ⟨w, hw, rfl⟩
      next hd =>
        obtain ⟨d, hd10, e⟩ := dg_val hd
        have hdf : (digF tx n 9 P).1 = nI d := by unfold digF; rw [if_neg hd]; exact e
        rw [hdf, show nI w * 10 + nI d = nI (10 * w + d) by rw [show (10 : Int32) = nI 10 from rfl, nI_mul, nIl_add, Nat.mul_comm w 10]]
        refine ih (10 * w + d) _ ?_
        have h1 : (10 * w + d + 1) * 10 ^ k ≤ (10 * w + 10) * 10 ^ k := Nat.mul_le_mul_right _ (by omega)
        have h2 : (10 * w + 10) * 10 ^ k = (w + 1) * 10 ^ (k + 1) := by rw [Nat.pow_succ, show 10 * w + 10 = (w + 1) * 10 by omega, Nat.mul_assoc, Nat.mul_comm 10 (10 ^ k)]
        omega
    · exact ⟨w, hw, rfl⟩
theorem num_rng (tx : Nat → Int32) (n m : Nat) (hm : 1 ≤ m ∧ m ≤ 3) (P : PS) : ∃ w, w < 10 ^ m ∧ (numF2 tx n m P).1 = nI w := by
  have hp : (10 : Nat) ^ m ≤ 1000 := by rcases (show m = 1 ∨ m = 2 ∨ m = 3 by omega) with rfl | rfl | rfl <;> decide
  have key : ∀ d, d < 10 → (digF tx n 9 P).1 = nI d → ∃ w, w < 10 ^ m ∧ (numF2 tx n m P).1 = nI w := fun d hd e => by
    unfold numF2
    rw [e]
    obtain ⟨w', h1, h2⟩ := nm_rng (tx := tx) (n := n) (B := 10 ^ m) hp (m - 1) d (digF tx n 9 P).2 (by
      have : (10 : Nat) ^ m = 10 * 10 ^ (m - 1) := by rcases (show m = 1 ∨ m = 2 ∨ m = 3 by omega) with rfl | rfl | rfl <;> decide
      rw [this]
      exact Nat.mul_le_mul_right _ (by omega))
    exact ⟨w', by omega, h2⟩
  by_cases h : dgF (hereF tx n P) 9 = 0
  · exact key 0 (by decide) (by unfold digF; rw [if_pos h]; rfl)
  · obtain ⟨d, hd, e⟩ := dg_val h
    exact key d hd (by unfold digF; rw [if_neg h]; exact e)
theorem num_key (tx : Nat → Int32) (n : Nat) (P : PS) : ¬ inR (numF2 tx n 2 P).1 0 99 = 0 := by
  obtain ⟨w, hw, e⟩ := num_rng tx n 2 (by decide) P
  rw [e]
  have key : ∀ w : Fin 100, ¬ inR (nI w.1) 0 99 = 0 := by decide +kernel
  exact key ⟨w, hw⟩
theorem val_in (tx : Nat → Int32) (n : Nat) (P : PS) : ¬ inR (valF2 tx n P).1 (-999) 999 = 0 := by
  have k1 : ∀ w : Fin 1000, ¬ inR (nI w.1) (-999) 999 = 0 := by decide +kernel
  have k2 : ∀ w : Fin 1000, ¬ inR (-(nI w.1)) (-999) 999 = 0 := by decide +kernel
  unfold valF2
  split
  · obtain ⟨w, hw, e⟩ := num_rng tx n 3 (by decide) (P.1 + 1, P.2)
    show ¬ inR (-(numF2 tx n 3 (P.1 + 1, P.2)).1) (-999) 999 = 0
    rw [e]
    exact k2 ⟨w, hw⟩
  · obtain ⟨w, hw, e⟩ := num_rng tx n 3 (by decide) P
    rw [e]
    exact k1 ⟨w, hw⟩
theorem num_ok {tx : Nat → Int32} {n m p : Nat} (h : (numF2 tx n m (p, false)).2.2 = false) : ¬ dgF (sgn tx n p) 9 = 0 := fun z => by
  have hd : digF tx n 9 (p, false) = (0, (p, true)) := if_pos z
  unfold numF2 at h
  rw [hd, show nmF tx n (m - 1) (0, ((p, true) : PS)).1 (0, ((p, true) : PS)).2 = nmF tx n (m - 1) 0 (p, true) from rfl, nm_zero] at h
  exact absurd h (by simp)
theorem val_ok {tx : Nat → Int32} {n : Nat} {c : Int32} {Q : PS} (h : (valF2 tx n (passF tx n c Q)).2.2 = false) : Q = (Q.1, false) ∧ sgn tx n Q.1 = c ∧ passF tx n c Q = (Q.1 + 1, false) := by
  have h1 : (passF tx n c Q).2 = false := by
    rcases hb : passF tx n c Q with ⟨q, b⟩
    rcases b with _ | _
    · rfl
    · rw [hb, val_stay] at h; exact absurd h (by simp)
  obtain ⟨h2, h3, h4⟩ := pass_ok h1
  have e : Q = (Q.1, false) := by rw [← h2]
  exact ⟨e, by rw [e] at h3; exact h3, h4⟩
theorem dg_61 : dgF 61 9 = 0 := by decide
theorem dg_44 : dgF 44 9 = 0 := by decide
theorem dg_46 : dgF 46 9 = 0 := by decide
theorem val_num45 {tx : Nat → Int32} {n q e : Nat} {v : Int32} (h : sgn tx n q = 45) (hv : valF2 tx n (q, false) = (v, (e, false))) : numF2 tx n 3 (q + 1, false) = (-v, (e, false)) := by
  unfold valF2 at hv
  rw [if_pos (show hereF tx n (q, false) = 45 from h)] at hv
  have h1 : -(numF2 tx n 3 (q + 1, false)).1 = v := congrArg (fun x : Int32 × PS => x.1) hv
  have h2 : (numF2 tx n 3 (q + 1, false)).2 = (e, false) := congrArg (fun x : Int32 × PS => x.2) hv
  rw [← h1, Int32.neg_neg, ← h2]
theorem val_numn45 {tx : Nat → Int32} {n q e : Nat} {v : Int32} (h : ¬ sgn tx n q = 45) (hv : valF2 tx n (q, false) = (v, (e, false))) : numF2 tx n 3 (q, false) = (v, (e, false)) := by
  unfold valF2 at hv
  rw [if_neg (show ¬ hereF tx n (q, false) = 45 from h)] at hv
  exact hv
set_option maxRecDepth 100000 in
set_option maxHeartbeats 400000 in
theorem M_numAt (q m e : Nat) (v : Int32) (hq : q < 200) (hm13 : 1 ≤ m ∧ m ≤ 3) (tx : Nat → Int32) (n : Nat) (I : MI) (R : MR) (hFR : FR R) (hT : TXM I tx n) (hn : numF2 tx n m (q, false) = (v, (e, false))) (he : dgF (sgn tx n e) 9 = 0) : Sp 2 0 0 mX11_numberAt [.ref 317, .int (nI q)] g0 I R (Mv v I R) := by
  have hm0 := hFR.2.2.2.2.2.1
  have hm1 := hFR.2.2.2.2.2.2.1
  have hm3 := hFR.2.2.2.2.2.2.2.1
  have hm5 := hFR.2.2.2.2.2.2.2.2.1
  have hm7 := hFR.2.2.2.2.2.2.2.2.2
  have t1 := hT.1
  have t2 := hT.2.1
  have t3 := hT.2.2
  refine Sp.on (by decide +kernel) rfl rfl (fun J hM => ?_)
  have hJ := hM.ok
  obtain ⟨res, hrv⟩ : ∃ res, res = v := ⟨_, rfl⟩
  rw [← hrv] at hM
  have h45 : ¬ sgn tx n q = 45 := fun z => num_ok (m := m) (by rw [hn]) (by rw [z]; decide)
  have ex : ∀ (y v : Int32) (e' : Nat), e' < 300 → dgF (sgn tx n e') 9 = 0 → (if y = 0 then v else -v) = res → J 0 0 31 [some (.ref 317), some (.int (nI q)), some (.int y), some (.int v), some (.int (nI e'))] [] g0 I R := by
    intro y v e' he' hd hres
    refine q_aload_n hJ dX11_numberAt_31 (q := 32) rfl rfl (by first | rfl | exact isR_rr _) ?_
    refine q_iload hJ dX11_numberAt_32 (q := 34) rfl rfl ?_
    refine q_callV hJ dX11_numberAt_34 (q := 37) rfl (M_digit e' (by omega) tx n I R hFR hT) imX11_digit ln_X11_168 (by first | exact ka317 | exact ka318 | exact ka319 | exact ka320 | exact ka321 | exact ka322) (by decide) rfl rfl rfl rfl (Nat.le_of_ble_eq_true rfl) (by decide) (by decide) rfl rfl (fun rv gv Iv Rv hv => ?_)
    obtain ⟨rfl, rfl, rfl, rfl⟩ := hv
    refine q_if_lt hJ (tgt := 58) dX11_numberAt_37 (q := 40) rfl (by decide) (fun _ => ?_) (fun c2 => absurd (dig_lt.mpr hd) c2)
    refine q_iload_n hJ dX11_numberAt_58 (q := 59) rfl rfl ?_
    refine q_if_eq hJ (tgt := 67) dX11_numberAt_59 (q := 62) rfl (by decide) (fun c9 => ?_) (fun c9 => ?_)
    · refine q_iload_n hJ dX11_numberAt_67 (q := 68) rfl rfl ?_
      refine q_iret hM dX11_numberAt_68 rfl rfl ?_
      first
        | exact ⟨iv ((if_pos c9).symm.trans hres), rfl, rfl, rfl⟩
        | exact ⟨iv ((if_neg c9).symm.trans hres), rfl, rfl, rfl⟩
        | fail
    · refine q_iload_n hJ dX11_numberAt_62 (q := 63) rfl rfl ?_
      refine q_ineg hJ dX11_numberAt_63 (q := 64) rfl ?_
      refine q_goto hJ (tgt := 68) dX11_numberAt_64 (by decide) ?_
      refine q_iret hM dX11_numberAt_68 rfl rfl ?_
      first
        | exact ⟨iv ((if_pos c9).symm.trans hres), rfl, rfl, rfl⟩
        | exact ⟨iv ((if_neg c9).symm.trans hres), rfl, rfl, rfl⟩
        | fail
  have loop : ∀ (y v : Int32) (e : Nat), dgF (sgn tx n e) 9 = 0 → (if y = 0 then v else -v) = res → ∀ (k w e' : Nat), 1 ≤ w → e' + k < 290 → (w + 1) * 10 ^ k ≤ 1000 → nmF tx n k (nI w) (e', false) = (v, (e, false)) → J 0 0 31 [some (.ref 317), some (.int (nI q)), some (.int y), some (.int (nI w)), some (.int (nI e'))] [] g0 I R := by
    intro y v e he hres k
    induction k with
    | zero =>
      intro w e' hw he' hw2 hn
      have h1 : nI w = v := congrArg (fun x : Int32 × PS => x.1) hn
      have h2 : e' = e := congrArg (fun x : Int32 × PS => x.2.1) hn
      subst h1 h2
      exact ex y _ _ (by omega) he hres
    | succ k ih =>
      intro w e' hw he' hw2 hn
      have hw1000 : w + 1 ≤ 1000 := Nat.le_trans (Nat.le_mul_of_pos_right _ (Nat.pow_pos (by decide))) hw2
      by_cases hd : dgF (sgn tx n e') 9 = 0
      · rw [nmF, if_pos (show (0 : Int32) < nI w from nI_lt (a := 0) (by omega) (by omega)), if_pos hd] at hn
        have h1 : nI w = v := congrArg (fun x : Int32 × PS => x.1) hn
        have h2 : e' = e := congrArg (fun x : Int32 × PS => x.2.1) hn
        subst h1 h2
        exact ex y _ _ (by omega) he hres
      · obtain ⟨d, hd10, hdv⟩ := dg_val hd
        have hdf : digF tx n 9 (e', false) = (nI d, (e' + 1, false)) := (if_neg hd).trans (congrArg (fun x => (x, ((e' + 1, false) : PS))) hdv)
        refine q_aload_n hJ dX11_numberAt_31 (q := 32) rfl rfl (by first | rfl | exact isR_rr _) ?_
        refine q_iload hJ dX11_numberAt_32 (q := 34) rfl rfl ?_
        refine q_callV hJ dX11_numberAt_34 (q := 37) rfl (M_digit e' (by omega) tx n I R hFR hT) imX11_digit ln_X11_168 (by first | exact ka317 | exact ka318 | exact ka319 | exact ka320 | exact ka321 | exact ka322) (by decide) rfl rfl rfl rfl (Nat.le_of_ble_eq_true rfl) (by decide) (by decide) rfl rfl (fun rv gv Iv Rv hv => ?_)
        obtain ⟨rfl, rfl, rfl, rfl⟩ := hv
        refine q_if_lt hJ (tgt := 58) dX11_numberAt_37 (q := 40) rfl (by decide) (fun c2 => absurd c2 (fun z => hd (dig_lt.mp z))) (fun _ => ?_)
        refine q_bipush hJ (v := 10) dX11_numberAt_40 (q := 42) rfl (by decide) ?_
        refine q_iload_n hJ dX11_numberAt_42 (q := 43) rfl rfl ?_
        refine q_imul hJ dX11_numberAt_43 (q := 44) rfl ?_
        refine q_aload_n hJ dX11_numberAt_44 (q := 45) rfl rfl (by first | rfl | exact isR_rr _) ?_
        refine q_iload hJ dX11_numberAt_45 (q := 47) rfl rfl ?_
        refine q_callV hJ dX11_numberAt_47 (q := 50) rfl (M_digit e' (by omega) tx n I R hFR hT) imX11_digit ln_X11_168 (by first | exact ka317 | exact ka318 | exact ka319 | exact ka320 | exact ka321 | exact ka322) (by decide) rfl rfl rfl rfl (Nat.le_of_ble_eq_true rfl) (by decide) (by decide) rfl rfl (fun rv gv Iv Rv hv => ?_)
        obtain ⟨rfl, rfl, rfl, rfl⟩ := hv
        refine q_iadd hJ dX11_numberAt_50 (q := 51) rfl ?_
        rw [show dig tx n e' = nI d from (if_neg hd).trans hdv, show 10 * nI w + nI d = nI (10 * w + d) by rw [show (10 : Int32) = nI 10 from rfl, nI_mul, nIl_add]]
        refine q_istore_n hJ dX11_numberAt_51 (q := 52) rfl (by decide) ?_
        refine q_iinc hJ dX11_numberAt_52 (q := 55) rfl (by decide) rfl (nI_1 e') ?_
        refine q_goto hJ (tgt := 31) dX11_numberAt_55 (by decide) ?_
        refine ih (10 * w + d) (e' + 1) (by omega) (by omega) ?_ ?_
        · have : (10 * w + d + 1) * 10 ^ k ≤ (10 * w + 10) * 10 ^ k := Nat.mul_le_mul_right _ (by omega)
          have h2 : (10 * w + 10) * 10 ^ k = (w + 1) * 10 ^ (k + 1) := by rw [Nat.pow_succ, show 10 * w + 10 = (w + 1) * 10 by omega, Nat.mul_assoc, Nat.mul_comm 10 (10 ^ k)]
          omega
        · rw [← hn, nmF, if_pos (show (0 : Int32) < nI w from nI_lt (a := 0) (by omega) (by omega)), if_neg hd, hdf]
          show nmF tx n k (nI (10 * w + d)) (e' + 1, false) = nmF tx n k (nI w * 10 + nI d) (e' + 1, false)
          rw [show (10 : Int32) = nI 10 from rfl, nI_mul, nIl_add, Nat.mul_comm w 10]
  have start : ∀ (y v : Int32) (e q0 m : Nat), q0 < 200 → (1 ≤ m ∧ m ≤ 3) → dgF (sgn tx n e) 9 = 0 → (if y = 0 then v else -v) = res → numF2 tx n m (q0, false) = (v, (e, false)) → J 0 0 31 [some (.ref 317), some (.int (nI q)), some (.int y), some (.int 0), some (.int (nI q0))] [] g0 I R := by
    intro y v e q0 m hq0 hm13 he hres hn
    have hd : ¬ dgF (sgn tx n q0) 9 = 0 := num_ok (m := m) (by rw [hn])
    obtain ⟨d, hd10, hdv⟩ := dg_val hd
    have hdf : digF tx n 9 (q0, false) = (nI d, (q0 + 1, false)) := (if_neg hd).trans (congrArg (fun x => (x, ((q0 + 1, false) : PS))) hdv)
    have hpw : (d + 1) * 10 ^ (m - 1) ≤ 1000 := by
      rcases (show m = 1 ∨ m = 2 ∨ m = 3 by omega) with rfl | rfl | rfl
      · show (d + 1) * 1 ≤ 1000; omega
      · show (d + 1) * 10 ≤ 1000; omega
      · show (d + 1) * 100 ≤ 1000; omega
    have hn2 : nmF tx n (m - 1) (nI d) (q0 + 1, false) = (v, (e, false)) := by
      have h := hn
      unfold numF2 at h
      rw [hdf] at h
      exact h
    refine q_aload_n hJ dX11_numberAt_31 (q := 32) rfl rfl (by first | rfl | exact isR_rr _) ?_
    refine q_iload hJ dX11_numberAt_32 (q := 34) rfl rfl ?_
    refine q_callV hJ dX11_numberAt_34 (q := 37) rfl (M_digit q0 (by omega) tx n I R hFR hT) imX11_digit ln_X11_168 (by first | exact ka317 | exact ka318 | exact ka319 | exact ka320 | exact ka321 | exact ka322) (by decide) rfl rfl rfl rfl (Nat.le_of_ble_eq_true rfl) (by decide) (by decide) rfl rfl (fun rv gv Iv Rv hv => ?_)
    obtain ⟨rfl, rfl, rfl, rfl⟩ := hv
    refine q_if_lt hJ (tgt := 58) dX11_numberAt_37 (q := 40) rfl (by decide) (fun c2 => absurd c2 (fun z => hd (dig_lt.mp z))) (fun _ => ?_)
    refine q_bipush hJ (v := 10) dX11_numberAt_40 (q := 42) rfl (by decide) ?_
    refine q_iload_n hJ dX11_numberAt_42 (q := 43) rfl rfl ?_
    refine q_imul hJ dX11_numberAt_43 (q := 44) rfl ?_
    refine q_aload_n hJ dX11_numberAt_44 (q := 45) rfl rfl (by first | rfl | exact isR_rr _) ?_
    refine q_iload hJ dX11_numberAt_45 (q := 47) rfl rfl ?_
    refine q_callV hJ dX11_numberAt_47 (q := 50) rfl (M_digit q0 (by omega) tx n I R hFR hT) imX11_digit ln_X11_168 (by first | exact ka317 | exact ka318 | exact ka319 | exact ka320 | exact ka321 | exact ka322) (by decide) rfl rfl rfl rfl (Nat.le_of_ble_eq_true rfl) (by decide) (by decide) rfl rfl (fun rv gv Iv Rv hv => ?_)
    obtain ⟨rfl, rfl, rfl, rfl⟩ := hv
    refine q_iadd hJ dX11_numberAt_50 (q := 51) rfl ?_
    rw [show dig tx n q0 = nI d from (if_neg hd).trans hdv, show 10 * 0 + nI d = nI d from Int32.zero_add _]
    refine q_istore_n hJ dX11_numberAt_51 (q := 52) rfl (by decide) ?_
    refine q_iinc hJ dX11_numberAt_52 (q := 55) rfl (by decide) rfl (nI_1 q0) ?_
    refine q_goto hJ (tgt := 31) dX11_numberAt_55 (by decide) ?_
    rcases Nat.eq_zero_or_pos d with z | z
    · subst z
      have hn3 : nmF tx n (m - 1) 0 (q0 + 1, false) = (v, (e, false)) := hn2
      rw [nm_zero] at hn3
      have h1 : (0 : Int32) = v := congrArg (fun x : Int32 × PS => x.1) hn3
      have h2 : q0 + 1 = e := congrArg (fun x : Int32 × PS => x.2.1) hn3
      subst h1 h2
      exact ex y _ _ (by omega) he hres
    · exact loop y v e he hres (m - 1) d (q0 + 1) z (by omega) hpw hn2
  refine q_aload_n hJ dX11_numberAt_0 (q := 1) rfl rfl (by first | rfl | exact isR_rr _) ?_
  refine q_iload_n hJ dX11_numberAt_1 (q := 2) rfl rfl ?_
  refine q_callV hJ dX11_numberAt_2 (q := 5) rfl (M_sign q (by omega) tx n I R hFR hT) imX11_sign ln_X11_164 (by first | exact ka317 | exact ka318 | exact ka319 | exact ka320 | exact ka321 | exact ka322) (by decide) rfl rfl rfl rfl (Nat.le_of_ble_eq_true rfl) (by decide) (by decide) rfl rfl (fun rv gv Iv Rv hv => ?_)
  obtain ⟨rfl, rfl, rfl, rfl⟩ := hv
  refine q_bipush hJ (v := 45) dX11_numberAt_5 (q := 7) rfl (by decide) ?_
  refine q_icmp_ne hJ (tgt := 14) dX11_numberAt_7 (q := 10) rfl (by decide) (fun _ => ?_) (fun c1 => absurd c1 h45)
  refine q_iconst hJ (v := 0) dX11_numberAt_14 (q := 15) rfl (by decide) ?_
  refine q_istore_n hJ dX11_numberAt_15 (q := 16) rfl (by decide) ?_
  refine q_iconst hJ (v := 0) dX11_numberAt_16 (q := 17) rfl (by decide) ?_
  refine q_istore_n hJ dX11_numberAt_17 (q := 18) rfl (by decide) ?_
  refine q_iload_n hJ dX11_numberAt_18 (q := 19) rfl rfl ?_
  refine q_if_eq hJ (tgt := 28) dX11_numberAt_19 (q := 22) rfl (by decide) (fun _ => ?_) (fun c3 => absurd rfl c3)
  refine q_iload_n hJ dX11_numberAt_28 (q := 29) rfl rfl ?_
  refine q_istore hJ dX11_numberAt_29 (q := 31) rfl (by decide) ?_
  exact start 0 v e q m hq hm13 he ((if_pos rfl).trans hrv.symm) hn

set_option maxRecDepth 100000 in
set_option maxHeartbeats 400000 in
theorem M_valAt (q e : Nat) (v : Int32) (hq : q < 190) (tx : Nat → Int32) (n : Nat) (I : MI) (R : MR) (hFR : FR R) (hT : TXM I tx n) (hv2 : valF2 tx n (q, false) = (v, (e, false))) (he : dgF (sgn tx n e) 9 = 0) : Sp 2 0 0 mX11_numberAt [.ref 317, .int (nI q)] g0 I R (Mv v I R) := by
  have hm0 := hFR.2.2.2.2.2.1
  have hm1 := hFR.2.2.2.2.2.2.1
  have hm3 := hFR.2.2.2.2.2.2.2.1
  have hm5 := hFR.2.2.2.2.2.2.2.2.1
  have hm7 := hFR.2.2.2.2.2.2.2.2.2
  have t1 := hT.1
  have t2 := hT.2.1
  have t3 := hT.2.2
  refine Sp.on (by decide +kernel) rfl rfl (fun J hM => ?_)
  have hJ := hM.ok
  obtain ⟨res, hrv⟩ : ∃ res, res = v := ⟨_, rfl⟩
  rw [← hrv] at hM
  have ex : ∀ (y v : Int32) (e' : Nat), e' < 300 → dgF (sgn tx n e') 9 = 0 → (if y = 0 then v else -v) = res → J 0 0 31 [some (.ref 317), some (.int (nI q)), some (.int y), some (.int v), some (.int (nI e'))] [] g0 I R := by
    intro y v e' he' hd hres
    refine q_aload_n hJ dX11_numberAt_31 (q := 32) rfl rfl (by first | rfl | exact isR_rr _) ?_
    refine q_iload hJ dX11_numberAt_32 (q := 34) rfl rfl ?_
    refine q_callV hJ dX11_numberAt_34 (q := 37) rfl (M_digit e' (by omega) tx n I R hFR hT) imX11_digit ln_X11_168 (by first | exact ka317 | exact ka318 | exact ka319 | exact ka320 | exact ka321 | exact ka322) (by decide) rfl rfl rfl rfl (Nat.le_of_ble_eq_true rfl) (by decide) (by decide) rfl rfl (fun rv gv Iv Rv hv => ?_)
    obtain ⟨rfl, rfl, rfl, rfl⟩ := hv
    refine q_if_lt hJ (tgt := 58) dX11_numberAt_37 (q := 40) rfl (by decide) (fun _ => ?_) (fun c2 => absurd (dig_lt.mpr hd) c2)
    refine q_iload_n hJ dX11_numberAt_58 (q := 59) rfl rfl ?_
    refine q_if_eq hJ (tgt := 67) dX11_numberAt_59 (q := 62) rfl (by decide) (fun c9 => ?_) (fun c9 => ?_)
    · refine q_iload_n hJ dX11_numberAt_67 (q := 68) rfl rfl ?_
      refine q_iret hM dX11_numberAt_68 rfl rfl ?_
      first
        | exact ⟨iv ((if_pos c9).symm.trans hres), rfl, rfl, rfl⟩
        | exact ⟨iv ((if_neg c9).symm.trans hres), rfl, rfl, rfl⟩
        | fail
    · refine q_iload_n hJ dX11_numberAt_62 (q := 63) rfl rfl ?_
      refine q_ineg hJ dX11_numberAt_63 (q := 64) rfl ?_
      refine q_goto hJ (tgt := 68) dX11_numberAt_64 (by decide) ?_
      refine q_iret hM dX11_numberAt_68 rfl rfl ?_
      first
        | exact ⟨iv ((if_pos c9).symm.trans hres), rfl, rfl, rfl⟩
        | exact ⟨iv ((if_neg c9).symm.trans hres), rfl, rfl, rfl⟩
        | fail
  have loop : ∀ (y v : Int32) (e : Nat), dgF (sgn tx n e) 9 = 0 → (if y = 0 then v else -v) = res → ∀ (k w e' : Nat), 1 ≤ w → e' + k < 290 → (w + 1) * 10 ^ k ≤ 1000 → nmF tx n k (nI w) (e', false) = (v, (e, false)) → J 0 0 31 [some (.ref 317), some (.int (nI q)), some (.int y), some (.int (nI w)), some (.int (nI e'))] [] g0 I R := by
    intro y v e he hres k
    induction k with
    | zero =>
      intro w e' hw he' hw2 hn
      have h1 : nI w = v := congrArg (fun x : Int32 × PS => x.1) hn
      have h2 : e' = e := congrArg (fun x : Int32 × PS => x.2.1) hn
      subst h1 h2
      exact ex y _ _ (by omega) he hres
    | succ k ih =>
      intro w e' hw he' hw2 hn
      have hw1000 : w + 1 ≤ 1000 := Nat.le_trans (Nat.le_mul_of_pos_right _ (Nat.pow_pos (by decide))) hw2
      by_cases hd : dgF (sgn tx n e') 9 = 0
      · rw [nmF, if_pos (show (0 : Int32) < nI w from nI_lt (a := 0) (by omega) (by omega)), if_pos hd] at hn
        have h1 : nI w = v := congrArg (fun x : Int32 × PS => x.1) hn
        have h2 : e' = e := congrArg (fun x : Int32 × PS => x.2.1) hn
        subst h1 h2
        exact ex y _ _ (by omega) he hres
      · obtain ⟨d, hd10, hdv⟩ := dg_val hd
        have hdf : digF tx n 9 (e', false) = (nI d, (e' + 1, false)) := (if_neg hd).trans (congrArg (fun x => (x, ((e' + 1, false) : PS))) hdv)
        refine q_aload_n hJ dX11_numberAt_31 (q := 32) rfl rfl (by first | rfl | exact isR_rr _) ?_
        refine q_iload hJ dX11_numberAt_32 (q := 34) rfl rfl ?_
        refine q_callV hJ dX11_numberAt_34 (q := 37) rfl (M_digit e' (by omega) tx n I R hFR hT) imX11_digit ln_X11_168 (by first | exact ka317 | exact ka318 | exact ka319 | exact ka320 | exact ka321 | exact ka322) (by decide) rfl rfl rfl rfl (Nat.le_of_ble_eq_true rfl) (by decide) (by decide) rfl rfl (fun rv gv Iv Rv hv => ?_)
        obtain ⟨rfl, rfl, rfl, rfl⟩ := hv
        refine q_if_lt hJ (tgt := 58) dX11_numberAt_37 (q := 40) rfl (by decide) (fun c2 => absurd c2 (fun z => hd (dig_lt.mp z))) (fun _ => ?_)
        refine q_bipush hJ (v := 10) dX11_numberAt_40 (q := 42) rfl (by decide) ?_
        refine q_iload_n hJ dX11_numberAt_42 (q := 43) rfl rfl ?_
        refine q_imul hJ dX11_numberAt_43 (q := 44) rfl ?_
        refine q_aload_n hJ dX11_numberAt_44 (q := 45) rfl rfl (by first | rfl | exact isR_rr _) ?_
        refine q_iload hJ dX11_numberAt_45 (q := 47) rfl rfl ?_
        refine q_callV hJ dX11_numberAt_47 (q := 50) rfl (M_digit e' (by omega) tx n I R hFR hT) imX11_digit ln_X11_168 (by first | exact ka317 | exact ka318 | exact ka319 | exact ka320 | exact ka321 | exact ka322) (by decide) rfl rfl rfl rfl (Nat.le_of_ble_eq_true rfl) (by decide) (by decide) rfl rfl (fun rv gv Iv Rv hv => ?_)
        obtain ⟨rfl, rfl, rfl, rfl⟩ := hv
        refine q_iadd hJ dX11_numberAt_50 (q := 51) rfl ?_
        rw [show dig tx n e' = nI d from (if_neg hd).trans hdv, show 10 * nI w + nI d = nI (10 * w + d) by rw [show (10 : Int32) = nI 10 from rfl, nI_mul, nIl_add]]
        refine q_istore_n hJ dX11_numberAt_51 (q := 52) rfl (by decide) ?_
        refine q_iinc hJ dX11_numberAt_52 (q := 55) rfl (by decide) rfl (nI_1 e') ?_
        refine q_goto hJ (tgt := 31) dX11_numberAt_55 (by decide) ?_
        refine ih (10 * w + d) (e' + 1) (by omega) (by omega) ?_ ?_
        · have : (10 * w + d + 1) * 10 ^ k ≤ (10 * w + 10) * 10 ^ k := Nat.mul_le_mul_right _ (by omega)
          have h2 : (10 * w + 10) * 10 ^ k = (w + 1) * 10 ^ (k + 1) := by rw [Nat.pow_succ, show 10 * w + 10 = (w + 1) * 10 by omega, Nat.mul_assoc, Nat.mul_comm 10 (10 ^ k)]
          omega
        · rw [← hn, nmF, if_pos (show (0 : Int32) < nI w from nI_lt (a := 0) (by omega) (by omega)), if_neg hd, hdf]
          show nmF tx n k (nI (10 * w + d)) (e' + 1, false) = nmF tx n k (nI w * 10 + nI d) (e' + 1, false)
          rw [show (10 : Int32) = nI 10 from rfl, nI_mul, nIl_add, Nat.mul_comm w 10]
  have start : ∀ (y v : Int32) (e q0 m : Nat), q0 < 200 → (1 ≤ m ∧ m ≤ 3) → dgF (sgn tx n e) 9 = 0 → (if y = 0 then v else -v) = res → numF2 tx n m (q0, false) = (v, (e, false)) → J 0 0 31 [some (.ref 317), some (.int (nI q)), some (.int y), some (.int 0), some (.int (nI q0))] [] g0 I R := by
    intro y v e q0 m hq0 hm13 he hres hn
    have hd : ¬ dgF (sgn tx n q0) 9 = 0 := num_ok (m := m) (by rw [hn])
    obtain ⟨d, hd10, hdv⟩ := dg_val hd
    have hdf : digF tx n 9 (q0, false) = (nI d, (q0 + 1, false)) := (if_neg hd).trans (congrArg (fun x => (x, ((q0 + 1, false) : PS))) hdv)
    have hpw : (d + 1) * 10 ^ (m - 1) ≤ 1000 := by
      rcases (show m = 1 ∨ m = 2 ∨ m = 3 by omega) with rfl | rfl | rfl
      · show (d + 1) * 1 ≤ 1000; omega
      · show (d + 1) * 10 ≤ 1000; omega
      · show (d + 1) * 100 ≤ 1000; omega
    have hn2 : nmF tx n (m - 1) (nI d) (q0 + 1, false) = (v, (e, false)) := by
      have h := hn
      unfold numF2 at h
      rw [hdf] at h
      exact h
    refine q_aload_n hJ dX11_numberAt_31 (q := 32) rfl rfl (by first | rfl | exact isR_rr _) ?_
    refine q_iload hJ dX11_numberAt_32 (q := 34) rfl rfl ?_
    refine q_callV hJ dX11_numberAt_34 (q := 37) rfl (M_digit q0 (by omega) tx n I R hFR hT) imX11_digit ln_X11_168 (by first | exact ka317 | exact ka318 | exact ka319 | exact ka320 | exact ka321 | exact ka322) (by decide) rfl rfl rfl rfl (Nat.le_of_ble_eq_true rfl) (by decide) (by decide) rfl rfl (fun rv gv Iv Rv hv => ?_)
    obtain ⟨rfl, rfl, rfl, rfl⟩ := hv
    refine q_if_lt hJ (tgt := 58) dX11_numberAt_37 (q := 40) rfl (by decide) (fun c2 => absurd c2 (fun z => hd (dig_lt.mp z))) (fun _ => ?_)
    refine q_bipush hJ (v := 10) dX11_numberAt_40 (q := 42) rfl (by decide) ?_
    refine q_iload_n hJ dX11_numberAt_42 (q := 43) rfl rfl ?_
    refine q_imul hJ dX11_numberAt_43 (q := 44) rfl ?_
    refine q_aload_n hJ dX11_numberAt_44 (q := 45) rfl rfl (by first | rfl | exact isR_rr _) ?_
    refine q_iload hJ dX11_numberAt_45 (q := 47) rfl rfl ?_
    refine q_callV hJ dX11_numberAt_47 (q := 50) rfl (M_digit q0 (by omega) tx n I R hFR hT) imX11_digit ln_X11_168 (by first | exact ka317 | exact ka318 | exact ka319 | exact ka320 | exact ka321 | exact ka322) (by decide) rfl rfl rfl rfl (Nat.le_of_ble_eq_true rfl) (by decide) (by decide) rfl rfl (fun rv gv Iv Rv hv => ?_)
    obtain ⟨rfl, rfl, rfl, rfl⟩ := hv
    refine q_iadd hJ dX11_numberAt_50 (q := 51) rfl ?_
    rw [show dig tx n q0 = nI d from (if_neg hd).trans hdv, show 10 * 0 + nI d = nI d from Int32.zero_add _]
    refine q_istore_n hJ dX11_numberAt_51 (q := 52) rfl (by decide) ?_
    refine q_iinc hJ dX11_numberAt_52 (q := 55) rfl (by decide) rfl (nI_1 q0) ?_
    refine q_goto hJ (tgt := 31) dX11_numberAt_55 (by decide) ?_
    rcases Nat.eq_zero_or_pos d with z | z
    · subst z
      have hn3 : nmF tx n (m - 1) 0 (q0 + 1, false) = (v, (e, false)) := hn2
      rw [nm_zero] at hn3
      have h1 : (0 : Int32) = v := congrArg (fun x : Int32 × PS => x.1) hn3
      have h2 : q0 + 1 = e := congrArg (fun x : Int32 × PS => x.2.1) hn3
      subst h1 h2
      exact ex y _ _ (by omega) he hres
    · exact loop y v e he hres (m - 1) d (q0 + 1) z (by omega) hpw hn2
  refine q_aload_n hJ dX11_numberAt_0 (q := 1) rfl rfl (by first | rfl | exact isR_rr _) ?_
  refine q_iload_n hJ dX11_numberAt_1 (q := 2) rfl rfl ?_
  refine q_callV hJ dX11_numberAt_2 (q := 5) rfl (M_sign q (by omega) tx n I R hFR hT) imX11_sign ln_X11_164 (by first | exact ka317 | exact ka318 | exact ka319 | exact ka320 | exact ka321 | exact ka322) (by decide) rfl rfl rfl rfl (Nat.le_of_ble_eq_true rfl) (by decide) (by decide) rfl rfl (fun rv gv Iv Rv hv => ?_)
  obtain ⟨rfl, rfl, rfl, rfl⟩ := hv
  refine q_bipush hJ (v := 45) dX11_numberAt_5 (q := 7) rfl (by decide) ?_
  refine q_icmp_ne hJ (tgt := 14) dX11_numberAt_7 (q := 10) rfl (by decide) (fun c1 => ?_) (fun c1 => ?_)
  · refine q_iconst hJ (v := 0) dX11_numberAt_14 (q := 15) rfl (by decide) ?_
    refine q_istore_n hJ dX11_numberAt_15 (q := 16) rfl (by decide) ?_
    refine q_iconst hJ (v := 0) dX11_numberAt_16 (q := 17) rfl (by decide) ?_
    refine q_istore_n hJ dX11_numberAt_17 (q := 18) rfl (by decide) ?_
    refine q_iload_n hJ dX11_numberAt_18 (q := 19) rfl rfl ?_
    refine q_if_eq hJ (tgt := 28) dX11_numberAt_19 (q := 22) rfl (by decide) (fun _ => ?_) (fun c3 => absurd rfl c3)
    refine q_iload_n hJ dX11_numberAt_28 (q := 29) rfl rfl ?_
    try rw [nI_1 q]
    refine q_istore hJ dX11_numberAt_29 (q := 31) rfl (by decide) ?_
    have hr1 : (if (1 : Int32) = 0 then (-v) else -(-v)) = res := (if_neg (by decide)).trans (Int32.neg_neg.trans hrv.symm)
    first
      | exact start 1 (-v) e (q + 1) 3 (by omega) (by decide) he hr1 (val_num45 c1 hv2)
      | exact start 0 v e q 3 (by omega) (by decide) he ((if_pos rfl).trans hrv.symm) (val_numn45 c1 hv2)
      | fail
  · refine q_iconst hJ (v := 1) dX11_numberAt_10 (q := 11) rfl (by decide) ?_
    refine q_goto hJ (tgt := 15) dX11_numberAt_11 (by decide) ?_
    refine q_istore_n hJ dX11_numberAt_15 (q := 16) rfl (by decide) ?_
    refine q_iconst hJ (v := 0) dX11_numberAt_16 (q := 17) rfl (by decide) ?_
    refine q_istore_n hJ dX11_numberAt_17 (q := 18) rfl (by decide) ?_
    refine q_iload_n hJ dX11_numberAt_18 (q := 19) rfl rfl ?_
    refine q_if_eq hJ (tgt := 28) dX11_numberAt_19 (q := 22) rfl (by decide) (fun c3 => absurd c3 (by decide)) (fun _ => ?_)
    refine q_iload_n hJ dX11_numberAt_22 (q := 23) rfl rfl ?_
    refine q_iconst hJ (v := 1) dX11_numberAt_23 (q := 24) rfl (by decide) ?_
    refine q_iadd hJ dX11_numberAt_24 (q := 25) rfl ?_
    refine q_goto hJ (tgt := 29) dX11_numberAt_25 (by decide) ?_
    try rw [nI_1 q]
    refine q_istore hJ dX11_numberAt_29 (q := 31) rfl (by decide) ?_
    have hr1 : (if (1 : Int32) = 0 then (-v) else -(-v)) = res := (if_neg (by decide)).trans (Int32.neg_neg.trans hrv.symm)
    first
      | exact start 1 (-v) e (q + 1) 3 (by omega) (by decide) he hr1 (val_num45 c1 hv2)
      | exact start 0 v e q 3 (by omega) (by decide) he ((if_pos rfl).trans hrv.symm) (val_numn45 c1 hv2)
      | fail

