/-! THE MODEL: places in the text -/
def enc (P : PS) : Int32 := if P.2 = true then -1 - nI P.1 else nI P.1
def dig (tx : Nat → Int32) (n p : Nat) : Int32 := if dgF (hereF tx n (p, false)) 9 = 0 then -1 else hereF tx n (p, false) - 48
abbrev sgn (tx : Nat → Int32) (n p : Nat) : Int32 := hereF tx n (p, false)
def TXM (I : MI) (tx : Nat → Int32) (n : Nat) : Prop := I 317 6 = nI n ∧ n ≤ 80 ∧ ∀ i, i < n → I 321 i = tx i
theorem sgn_in {tx : Nat → Int32} {n p : Nat} (h : p < n) : sgn tx n p = tx p := by
  unfold sgn hereF
  rw [if_neg (by simp), if_neg (show ¬ n ≤ p by omega)]
theorem sgn_out {tx : Nat → Int32} {n p : Nat} (h : n ≤ p) : sgn tx n p = -1 := by
  unfold sgn hereF
  rw [if_neg (by simp), if_pos (show n ≤ p from h)]
theorem in_dg (c : Int32) : inR c 48 57 = dgF c 9 := rfl
theorem dg_val {c : Int32} (h : ¬ dgF c 9 = 0) : ∃ d, d < 10 ∧ c - 48 = nI d := by
  have h1 : ¬ inR c 48 57 = 0 := h
  obtain ⟨a, b⟩ := inR_iff h1
  obtain ⟨j, hj, rfl⟩ := nI_of2 (M := 57) (n := 57) rfl (fun z => a (Int32.lt_trans z (by decide))) (Int32.not_lt.mp b)
  have h48 : 48 ≤ j := by
    rcases Nat.lt_or_ge j 48 with z | z
    · exact absurd (show nI j < 48 from nI_lt (b := 48) z (by decide)) a
    · exact z
  exact ⟨j - 48, by omega, nI_sub (a := j) (b := 48) h48⟩
theorem dig_lt {tx : Nat → Int32} {n p : Nat} : dig tx n p < 0 ↔ dgF (sgn tx n p) 9 = 0 := by
  unfold dig
  by_cases h : dgF (hereF tx n (p, false)) 9 = 0
  · rw [if_pos h]; exact ⟨fun _ => h, fun _ => by decide⟩
  · rw [if_neg h]
    obtain ⟨d, hd, e⟩ := dg_val h
    rw [e]
    exact ⟨fun z => absurd z (nI_pos (by omega)), fun z => absurd z h⟩
theorem enc_bad {p : Nat} : enc (p, true) = -1 - nI p := rfl
theorem enc_ok {p : Nat} : enc (p, false) = nI p := rfl
theorem enc_neg {p : Nat} (h : p ≤ 200) : (-1 : Int32) - nI p < 0 := by
  have key : ∀ p : Fin 201, (-1 : Int32) - nI p.1 < 0 := by decide +kernel
  exact key ⟨p, by omega⟩
theorem enc_inv {p : Nat} (h : p ≤ 200) : (-1 : Int32) - (-1 - nI p) = nI p := by
  have key : ∀ p : Fin 201, (-1 : Int32) - (-1 - nI p.1) = nI p.1 := by decide +kernel
  exact key ⟨p, by omega⟩
theorem val_45 {tx : Nat → Int32} {n p : Nat} (h : sgn tx n p = 45) : (valF2 tx n (p, false)).2 = (numF2 tx n 3 (p + 1, false)).2 := by
  unfold valF2
  rw [if_pos h]
theorem val_n45 {tx : Nat → Int32} {n p : Nat} (h : ¬ sgn tx n p = 45) : (valF2 tx n (p, false)).2 = (numF2 tx n 3 (p, false)).2 := by
  unfold valF2
  rw [if_neg h]
theorem here_bad (tx : Nat → Int32) (n p : Nat) : hereF tx n (p, true) = -1 := if_pos rfl
/-- places go on, and not beyond the text -/
theorem pass_mono {tx : Nat → Int32} {n : Nat} {c : Int32} {P : PS} (hc : ¬ c = -1) (h : P.1 ≤ n) : P.1 ≤ (passF tx n c P).1 ∧ (passF tx n c P).1 ≤ n := by
  unfold passF
  split
  next e =>
    have := (here_lt (show ¬ hereF tx n P = -1 by rw [e]; exact hc)).2.1
    exact ⟨Nat.le_succ _, this⟩
  next => exact ⟨Nat.le_refl _, h⟩
theorem digF_mono {tx : Nat → Int32} {n : Nat} {m : Int32} {P : PS} (h : P.1 ≤ n) : P.1 ≤ (digF tx n m P).2.1 ∧ (digF tx n m P).2.1 ≤ n := by
  unfold digF
  split
  · exact ⟨Nat.le_refl _, h⟩
  next e =>
    have := (here_lt (dg_here e)).2.1
    exact ⟨Nat.le_succ _, this⟩
theorem nm_mono {tx : Nat → Int32} {n : Nat} (k : Nat) (v : Int32) (P : PS) (h : P.1 ≤ n) : P.1 ≤ (nmF tx n k v P).2.1 ∧ (nmF tx n k v P).2.1 ≤ n := by
  induction k generalizing v P with
  | zero => exact ⟨Nat.le_refl _, h⟩
  | succ k ih =>
    unfold nmF
    split
    · split
      · exact ⟨Nat.le_refl _, h⟩
      · have h1 := digF_mono (tx := tx) (m := 9) h
        have h2 := ih (v * 10 + (digF tx n 9 P).1) (digF tx n 9 P).2 h1.2
        exact ⟨Nat.le_trans h1.1 h2.1, h2.2⟩
    · exact ⟨Nat.le_refl _, h⟩
theorem num_mono {tx : Nat → Int32} {n m : Nat} {P : PS} (h : P.1 ≤ n) : P.1 ≤ (numF2 tx n m P).2.1 ∧ (numF2 tx n m P).2.1 ≤ n := by
  have h1 := digF_mono (tx := tx) (m := 9) h
  have h2 := nm_mono (tx := tx) (m - 1) (digF tx n 9 P).1 (digF tx n 9 P).2 h1.2
  exact ⟨Nat.le_trans h1.1 h2.1, h2.2⟩
theorem val_mono {tx : Nat → Int32} {n : Nat} {P : PS} (h : P.1 ≤ n) : P.1 ≤ (valF2 tx n P).2.1 ∧ (valF2 tx n P).2.1 ≤ n := by
  unfold valF2
  split
  next e =>
    have h0 := (here_lt (show ¬ hereF tx n P = -1 by rw [e]; decide)).2.1
    have h2 := num_mono (tx := tx) (m := 3) (P := (P.1 + 1, P.2)) h0
    exact ⟨Nat.le_trans (Nat.le_succ _) h2.1, h2.2⟩
  next => exact num_mono h
/-- a fault stays -/
theorem pass_stay (tx : Nat → Int32) (n : Nat) {c : Int32} (hc : ¬ c = -1) (p : Nat) : passF tx n c (p, true) = (p, true) := by
  unfold passF
  rw [here_bad, if_neg (fun z => hc z.symm)]
theorem digF_stay (tx : Nat → Int32) (n : Nat) (m : Int32) (p : Nat) : digF tx n m (p, true) = (0, (p, true)) := by
  unfold digF
  rw [here_bad, if_pos]
  unfold dgF
  rw [if_pos (by decide)]
theorem nm_zero (tx : Nat → Int32) (n k : Nat) (P : PS) : nmF tx n k 0 P = (0, P) := by
  rcases k with _ | k
  · rfl
  · unfold nmF; rw [if_neg (by decide)]
theorem num_stay (tx : Nat → Int32) (n m p : Nat) : numF2 tx n m (p, true) = (0, (p, true)) := by
  unfold numF2
  rw [digF_stay]
  exact nm_zero _ _ _ _
theorem val_stay (tx : Nat → Int32) (n p : Nat) : valF2 tx n (p, true) = (0, (p, true)) := by
  unfold valF2
  rw [here_bad, if_neg (by decide)]
  exact num_stay _ _ _ _
set_option maxRecDepth 100000 in
set_option maxHeartbeats 400000 in
theorem M_sign (p : Nat) (hp : p < 300) (tx : Nat → Int32) (n : Nat) (I : MI) (R : MR) (hFR : FR R) (hT : TXM I tx n) : Sp 0 0 0 mX11_sign [.ref 317, .int (nI p)] g0 I R (Mv (sgn tx n p) I R) := by
  have hm0 := hFR.2.2.2.2.2.1
  have hm1 := hFR.2.2.2.2.2.2.1
  have hm3 := hFR.2.2.2.2.2.2.2.1
  have hm5 := hFR.2.2.2.2.2.2.2.2.1
  have hm7 := hFR.2.2.2.2.2.2.2.2.2
  have t1 := hT.1
  have t2 := hT.2.1
  have t3 := hT.2.2
  refine Sp.on (by decide +kernel) rfl rfl (fun J hM => ?_)
  have hJ := hM.ok
  by_cases hlt : p < n
  · refine q_iload_n hJ dX11_sign_0 (q := 1) rfl rfl ?_
    refine q_aload_n hJ dX11_sign_1 (q := 2) rfl rfl (by first | rfl | exact isR_rr _) ?_
    refine q_getI hJ dX11_sign_2 (q := 5) rfl fl_X11_161 rfl (by first | exact ka317 | exact ka318 | exact ka319 | exact ka320 | exact ka321 | exact ka322) t1 ?_
    refine q_icmp_ge hJ (tgt := 17) dX11_sign_5 (q := 8) rfl (by decide) (fun c1 => absurd c1 (nI_ge hlt (by omega))) (fun _ => ?_)
    refine q_aload_n hJ dX11_sign_8 (q := 9) rfl rfl (by first | rfl | exact isR_rr _) ?_
    refine q_getR hJ dX11_sign_9 (q := 12) rfl fl_X11_19 rfl (by first | exact ka317 | exact ka318 | exact ka319 | exact ka320 | exact ka321 | exact ka322) (by assumption) rfl ?_
    refine q_iload_n hJ dX11_sign_12 (q := 13) rfl rfl ?_
    refine q_iald hJ dX11_sign_13 (q := 14) rfl (by first | exact ka317 | exact ka318 | exact ka319 | exact ka320 | exact ka321 | exact ka322) (ixE (j := p) (by ((try simp only [nIl_add, nI_mul, nIl_0, nIl_1, nIl_2, nIl_3, nIl_4, nIl_5, nIl_6, nIl_7, nIl_8, nIl_9, nIl_10, nIl_11, nIl_12, nIl_20, nIl_60, nIl_72, nIl_80, nIl_81, nIl_82, nIl_99, nIl_100, nIl_226, nIl_227, nIl_228, nIl_229, nIl_230, nIl_231, nIl_232, nIl_233, nIl_413, nIl_1239, nIl_10000]) <;> first | done | rfl | exact congrArg nI (by omega))) (by omega) (by decide)) (t3 p hlt) ?_
    refine q_goto hJ (tgt := 18) dX11_sign_14 (by decide) ?_
    refine q_iret hM dX11_sign_18 rfl rfl ?_
    exact ⟨iv (sgn_in hlt).symm, rfl, rfl, rfl⟩
  · refine q_iload_n hJ dX11_sign_0 (q := 1) rfl rfl ?_
    refine q_aload_n hJ dX11_sign_1 (q := 2) rfl rfl (by first | rfl | exact isR_rr _) ?_
    refine q_getI hJ dX11_sign_2 (q := 5) rfl fl_X11_161 rfl (by first | exact ka317 | exact ka318 | exact ka319 | exact ka320 | exact ka321 | exact ka322) t1 ?_
    refine q_icmp_ge hJ (tgt := 17) dX11_sign_5 (q := 8) rfl (by decide) (fun _ => ?_) (fun c1 => absurd (nI_le (show n ≤ p by omega) (by omega)) c1)
    refine q_iconst hJ (v := (-1)) dX11_sign_17 (q := 18) rfl (by decide) ?_
    refine q_iret hM dX11_sign_18 rfl rfl ?_
    exact ⟨iv (sgn_out (by omega)).symm, rfl, rfl, rfl⟩

set_option maxRecDepth 100000 in
set_option maxHeartbeats 400000 in
theorem M_digit (p : Nat) (hp : p < 300) (tx : Nat → Int32) (n : Nat) (I : MI) (R : MR) (hFR : FR R) (hT : TXM I tx n) : Sp 1 0 0 mX11_digit [.ref 317, .int (nI p)] g0 I R (Mv (dig tx n p) I R) := by
  have hm0 := hFR.2.2.2.2.2.1
  have hm1 := hFR.2.2.2.2.2.2.1
  have hm3 := hFR.2.2.2.2.2.2.2.1
  have hm5 := hFR.2.2.2.2.2.2.2.2.1
  have hm7 := hFR.2.2.2.2.2.2.2.2.2
  have t1 := hT.1
  have t2 := hT.2.1
  have t3 := hT.2.2
  refine Sp.on (by decide +kernel) rfl rfl (fun J hM => ?_)
  have hJ := hM.ok
  refine q_aload_n hJ dX11_digit_0 (q := 1) rfl rfl (by first | rfl | exact isR_rr _) ?_
  refine q_iload_n hJ dX11_digit_1 (q := 2) rfl rfl ?_
  refine q_callV hJ dX11_digit_2 (q := 5) rfl (M_sign p hp tx n I R hFR hT) imX11_sign ln_X11_164 (by first | exact ka317 | exact ka318 | exact ka319 | exact ka320 | exact ka321 | exact ka322) (by decide) rfl rfl rfl rfl (Nat.le_of_ble_eq_true rfl) (by decide) (by decide) rfl rfl (fun rv gv Iv Rv hv => ?_)
  obtain ⟨rfl, rfl, rfl, rfl⟩ := hv
  refine q_bipush hJ (v := 48) dX11_digit_5 (q := 7) rfl (by decide) ?_
  refine q_bipush hJ (v := 57) dX11_digit_7 (q := 9) rfl (by decide) ?_
  refine q_callS hJ dX11_digit_9 (q := 12) rfl (M_in (sgn tx n p) 48 57 I R) imX11_in ln_X11_25 rfl rfl rfl (Nat.le_of_ble_eq_true rfl) (by decide) (by decide) rfl rfl (fun rv gv Iv Rv hv => ?_)
  obtain ⟨rfl, rfl, rfl, rfl⟩ := hv
  refine q_if_eq hJ (tgt := 26) dX11_digit_12 (q := 15) rfl (by decide) (fun c1 => ?_) (fun c1 => ?_)
  · refine q_iconst hJ (v := (-1)) dX11_digit_26 (q := 27) rfl (by decide) ?_
    refine q_iret hM dX11_digit_27 rfl rfl ?_
    first
      | exact ⟨iv (if_pos c1).symm, rfl, rfl, rfl⟩
      | exact ⟨iv (if_neg c1).symm, rfl, rfl, rfl⟩
      | fail
  · refine q_aload_n hJ dX11_digit_15 (q := 16) rfl rfl (by first | rfl | exact isR_rr _) ?_
    refine q_iload_n hJ dX11_digit_16 (q := 17) rfl rfl ?_
    refine q_callV hJ dX11_digit_17 (q := 20) rfl (M_sign p hp tx n I R hFR hT) imX11_sign ln_X11_164 (by first | exact ka317 | exact ka318 | exact ka319 | exact ka320 | exact ka321 | exact ka322) (by decide) rfl rfl rfl rfl (Nat.le_of_ble_eq_true rfl) (by decide) (by decide) rfl rfl (fun rv gv Iv Rv hv => ?_)
    obtain ⟨rfl, rfl, rfl, rfl⟩ := hv
    refine q_bipush hJ (v := 48) dX11_digit_20 (q := 22) rfl (by decide) ?_
    refine q_isub hJ dX11_digit_22 (q := 23) rfl ?_
    refine q_goto hJ (tgt := 27) dX11_digit_23 (by decide) ?_
    refine q_iret hM dX11_digit_27 rfl rfl ?_
    first
      | exact ⟨iv (if_pos c1).symm, rfl, rfl, rfl⟩
      | exact ⟨iv (if_neg c1).symm, rfl, rfl, rfl⟩
      | fail

set_option maxRecDepth 100000 in
set_option maxHeartbeats 400000 in
theorem M_numberEnd (p m : Nat) (hp : p < 200) (hm13 : 1 ≤ m ∧ m ≤ 3) (tx : Nat → Int32) (n : Nat) (I : MI) (R : MR) (hFR : FR R) (hT : TXM I tx n) : Sp 2 0 0 mX11_numberEnd [.ref 317, .int (nI p), .int (nI m)] g0 I R (Mv (enc (numF2 tx n m (p, false)).2) I R) := by
  have hm0 := hFR.2.2.2.2.2.1
  have hm1 := hFR.2.2.2.2.2.2.1
  have hm3 := hFR.2.2.2.2.2.2.2.1
  have hm5 := hFR.2.2.2.2.2.2.2.2.1
  have hm7 := hFR.2.2.2.2.2.2.2.2.2
  have t1 := hT.1
  have t2 := hT.2.1
  have t3 := hT.2.2
  refine Sp.on (by decide +kernel) rfl rfl (fun J hM => ?_)
  have hJ := hM.ok
  have loop : ∀ (k e w : Nat), e + k = p + m → 1 ≤ w → (w + 1) * 10 ^ k ≤ 1000 → enc (nmF tx n k (nI w) (e, false)).2 = enc (numF2 tx n m (p, false)).2 → J 0 0 31 [some (.ref 317), some (.int (nI p)), some (.int (nI m)), some (.int (nI e))] [] g0 I R := by
    intro k
    induction k with
    | zero =>
      intro e w hm hw hw2 hr
      refine q_iload_n hJ dX11_numberEnd_31 (q := 32) rfl rfl ?_
      refine q_iload_n hJ dX11_numberEnd_32 (q := 33) rfl rfl ?_
      refine q_iload_n hJ dX11_numberEnd_33 (q := 34) rfl rfl ?_
      refine q_iadd hJ dX11_numberEnd_34 (q := 35) rfl ?_
      rw [nIl_add p m]
      refine q_icmp_ge hJ (tgt := 52) dX11_numberEnd_35 (q := 38) rfl (by decide) (fun _ => ?_) (fun c3 => absurd ((nI_leI (a := p + m) (b := e) (by omega) (by omega)).mpr (by omega)) c3)
      refine q_iload_n hJ dX11_numberEnd_52 (q := 53) rfl rfl ?_
      refine q_iret hM dX11_numberEnd_53 rfl rfl ?_
      exact ⟨iv (show nI e = _ from hr), rfl, rfl, rfl⟩
    | succ k ih =>
      intro e w hm hw hw2 hr
      have hw1000 : w + 1 ≤ 1000 := Nat.le_trans (Nat.le_mul_of_pos_right _ (Nat.pow_pos (by decide))) hw2
      refine q_iload_n hJ dX11_numberEnd_31 (q := 32) rfl rfl ?_
      refine q_iload_n hJ dX11_numberEnd_32 (q := 33) rfl rfl ?_
      refine q_iload_n hJ dX11_numberEnd_33 (q := 34) rfl rfl ?_
      refine q_iadd hJ dX11_numberEnd_34 (q := 35) rfl ?_
      rw [nIl_add p m]
      refine q_icmp_ge hJ (tgt := 52) dX11_numberEnd_35 (q := 38) rfl (by decide) (fun c3 => absurd ((nI_leI (a := p + m) (b := e) (by omega) (by omega)).mp c3) (by omega)) (fun _ => ?_)
      refine q_aload_n hJ dX11_numberEnd_38 (q := 39) rfl rfl (by first | rfl | exact isR_rr _) ?_
      refine q_iload_n hJ dX11_numberEnd_39 (q := 40) rfl rfl ?_
      refine q_callV hJ dX11_numberEnd_40 (q := 43) rfl (M_digit e (by omega) tx n I R hFR hT) imX11_digit ln_X11_168 (by first | exact ka317 | exact ka318 | exact ka319 | exact ka320 | exact ka321 | exact ka322) (by decide) rfl rfl rfl rfl (Nat.le_of_ble_eq_true rfl) (by decide) (by decide) rfl rfl (fun rv gv Iv Rv hv => ?_)
      obtain ⟨rfl, rfl, rfl, rfl⟩ := hv
      refine q_if_lt hJ (tgt := 52) dX11_numberEnd_43 (q := 46) rfl (by decide) (fun c4 => ?_) (fun c4 => ?_)
      · refine q_iload_n hJ dX11_numberEnd_52 (q := 53) rfl rfl ?_
        refine q_iret hM dX11_numberEnd_53 rfl rfl ?_
        have hd : dgF (sgn tx n e) 9 = 0 := dig_lt.mp c4
        exact ⟨iv (by rw [← hr, nmF, if_pos (show (0 : Int32) < nI w from nI_lt (a := 0) (by omega) (by omega)), if_pos hd]; rfl), rfl, rfl, rfl⟩
      · refine q_iinc hJ dX11_numberEnd_46 (q := 49) rfl (by decide) rfl (nI_1 e) ?_
        refine q_goto hJ (tgt := 31) dX11_numberEnd_49 (by decide) ?_
        have hd : ¬ dgF (sgn tx n e) 9 = 0 := fun z => c4 (dig_lt.mpr z)
        obtain ⟨d, hd10, hdv⟩ := dg_val hd
        have hdf : digF tx n 9 (e, false) = (nI d, (e + 1, false)) := by
          unfold digF
          rw [if_neg hd]
          exact congrArg (fun x => (x, ((e + 1, false) : PS))) hdv
        refine ih (e + 1) (10 * w + d) (by omega) (by omega) ?_ ?_
        · have : (10 * w + d + 1) * 10 ^ k ≤ (10 * w + 10) * 10 ^ k := Nat.mul_le_mul_right _ (by omega)
          have h2 : (10 * w + 10) * 10 ^ k = (w + 1) * 10 ^ (k + 1) := by rw [Nat.pow_succ, show 10 * w + 10 = (w + 1) * 10 by omega, Nat.mul_assoc, Nat.mul_comm 10 (10 ^ k)]
          omega
        · rw [← hr, nmF, if_pos (show (0 : Int32) < nI w from nI_lt (a := 0) (by omega) (by omega)), if_neg hd, hdf]
          show enc (nmF tx n k (nI (10 * w + d)) (e + 1, false)).2 = enc (nmF tx n k (nI w * 10 + nI d) (e + 1, false)).2
          rw [show (10 : Int32) = nI 10 from rfl, nI_mul, nIl_add, Nat.mul_comm w 10]
  refine q_aload_n hJ dX11_numberEnd_0 (q := 1) rfl rfl (by first | rfl | exact isR_rr _) ?_
  refine q_iload_n hJ dX11_numberEnd_1 (q := 2) rfl rfl ?_
  refine q_callV hJ dX11_numberEnd_2 (q := 5) rfl (M_digit p (by omega) tx n I R hFR hT) imX11_digit ln_X11_168 (by first | exact ka317 | exact ka318 | exact ka319 | exact ka320 | exact ka321 | exact ka322) (by decide) rfl rfl rfl rfl (Nat.le_of_ble_eq_true rfl) (by decide) (by decide) rfl rfl (fun rv gv Iv Rv hv => ?_)
  obtain ⟨rfl, rfl, rfl, rfl⟩ := hv
  refine q_iconst hJ (v := 1) dX11_numberEnd_5 (q := 6) rfl (by decide) ?_
  refine q_icmp_ge hJ (tgt := 27) dX11_numberEnd_6 (q := 9) rfl (by decide) (fun c1 => ?_) (fun c1 => ?_)
  · refine q_iload_n hJ dX11_numberEnd_27 (q := 28) rfl rfl ?_
    refine q_iconst hJ (v := 1) dX11_numberEnd_28 (q := 29) rfl (by decide) ?_
    refine q_iadd hJ dX11_numberEnd_29 (q := 30) rfl ?_
    refine q_istore_n hJ dX11_numberEnd_30 (q := 31) rfl (by decide) ?_
    have hd : ¬ dgF (sgn tx n p) 9 = 0 := fun z => by
      have h1 : dig tx n p = -1 := if_pos z
      rw [h1] at c1
      exact absurd c1 (by decide)
    obtain ⟨d, hd10, hdv⟩ := dg_val hd
    have hdg : dig tx n p = nI d := (if_neg hd).trans hdv
    have d1 : 1 ≤ d := by
      rcases Nat.eq_zero_or_pos d with z | z
      · rw [hdg, z] at c1; exact absurd c1 (by decide)
      · exact z
    have hdf : digF tx n 9 (p, false) = (nI d, (p + 1, false)) := (if_neg hd).trans (congrArg (fun x => (x, ((p + 1, false) : PS))) hdv)
    have hpw : (d + 1) * 10 ^ (m - 1) ≤ 1000 := by
      rcases (show m = 1 ∨ m = 2 ∨ m = 3 by omega) with rfl | rfl | rfl
      · show (d + 1) * 1 ≤ 1000; omega
      · show (d + 1) * 10 ≤ 1000; omega
      · show (d + 1) * 100 ≤ 1000; omega
    rw [nI_1 p]
    exact loop (m - 1) (p + 1) d (by omega) d1 hpw (by unfold numF2; rw [hdf])
  · refine q_aload_n hJ dX11_numberEnd_9 (q := 10) rfl rfl (by first | rfl | exact isR_rr _) ?_
    refine q_iload_n hJ dX11_numberEnd_10 (q := 11) rfl rfl ?_
    refine q_callV hJ dX11_numberEnd_11 (q := 14) rfl (M_digit p (by omega) tx n I R hFR hT) imX11_digit ln_X11_168 (by first | exact ka317 | exact ka318 | exact ka319 | exact ka320 | exact ka321 | exact ka322) (by decide) rfl rfl rfl rfl (Nat.le_of_ble_eq_true rfl) (by decide) (by decide) rfl rfl (fun rv gv Iv Rv hv => ?_)
    obtain ⟨rfl, rfl, rfl, rfl⟩ := hv
    refine q_if_ge hJ (tgt := 23) dX11_numberEnd_14 (q := 17) rfl (by decide) (fun c2 => ?_) (fun c2 => ?_)
    · refine q_iload_n hJ dX11_numberEnd_23 (q := 24) rfl rfl ?_
      refine q_iconst hJ (v := 1) dX11_numberEnd_24 (q := 25) rfl (by decide) ?_
      refine q_iadd hJ dX11_numberEnd_25 (q := 26) rfl ?_
      refine q_iret hM dX11_numberEnd_26 rfl rfl ?_
      first
        | (have hd : dgF (sgn tx n p) 9 = 0 := dig_lt.mp (Int32.not_le.mp c2)
           have hdf : digF tx n 9 (p, false) = (0, (p, true)) := if_pos hd
           exact ⟨iv (by unfold numF2; rw [hdf]; show _ = enc (nmF tx n (m - 1) 0 (p, true)).2; rw [nm_zero]; rfl), rfl, rfl, rfl⟩)
        | (have hd : ¬ dgF (sgn tx n p) 9 = 0 := fun z => absurd (dig_lt.mpr z) (Int32.not_lt.mpr c2)
           obtain ⟨d, hd10, hdv⟩ := dg_val hd
           have hdg : dig tx n p = nI d := (if_neg hd).trans hdv
           have d0 : d = 0 := by
             rw [hdg] at c1
             rcases Nat.eq_zero_or_pos d with z | z
             · exact z
             · exact absurd (show (1 : Int32) ≤ nI d from nI_le (a := 1) z (by omega)) c1
           subst d0
           have hdf : digF tx n 9 (p, false) = (0, (p + 1, false)) := (if_neg hd).trans (congrArg (fun x => (x, ((p + 1, false) : PS))) hdv)
           exact ⟨iv (by unfold numF2; rw [hdf]; show _ = enc (nmF tx n (m - 1) 0 (p + 1, false)).2; rw [nm_zero]; exact nI_1 p), rfl, rfl, rfl⟩)
        | fail
    · refine q_iconst hJ (v := (-1)) dX11_numberEnd_17 (q := 18) rfl (by decide) ?_
      refine q_iload_n hJ dX11_numberEnd_18 (q := 19) rfl rfl ?_
      refine q_isub hJ dX11_numberEnd_19 (q := 20) rfl ?_
      refine q_goto hJ (tgt := 26) dX11_numberEnd_20 (by decide) ?_
      refine q_iret hM dX11_numberEnd_26 rfl rfl ?_
      first
        | (have hd : dgF (sgn tx n p) 9 = 0 := dig_lt.mp (Int32.not_le.mp c2)
           have hdf : digF tx n 9 (p, false) = (0, (p, true)) := if_pos hd
           exact ⟨iv (by unfold numF2; rw [hdf]; show _ = enc (nmF tx n (m - 1) 0 (p, true)).2; rw [nm_zero]; rfl), rfl, rfl, rfl⟩)
        | (have hd : ¬ dgF (sgn tx n p) 9 = 0 := fun z => absurd (dig_lt.mpr z) (Int32.not_lt.mpr c2)
           obtain ⟨d, hd10, hdv⟩ := dg_val hd
           have hdg : dig tx n p = nI d := (if_neg hd).trans hdv
           have d0 : d = 0 := by
             rw [hdg] at c1
             rcases Nat.eq_zero_or_pos d with z | z
             · exact z
             · exact absurd (show (1 : Int32) ≤ nI d from nI_le (a := 1) z (by omega)) c1
           subst d0
           have hdf : digF tx n 9 (p, false) = (0, (p + 1, false)) := (if_neg hd).trans (congrArg (fun x => (x, ((p + 1, false) : PS))) hdv)
           exact ⟨iv (by unfold numF2; rw [hdf]; show _ = enc (nmF tx n (m - 1) 0 (p + 1, false)).2; rw [nm_zero]; exact nI_1 p), rfl, rfl, rfl⟩)
        | fail

set_option maxRecDepth 100000 in
set_option maxHeartbeats 400000 in
theorem M_valueEnd (p : Nat) (hp : p < 150) (tx : Nat → Int32) (n : Nat) (I : MI) (R : MR) (hFR : FR R) (hT : TXM I tx n) : Sp 3 0 0 mX11_valueEnd [.ref 317, .int (nI p)] g0 I R (Mv (enc (valF2 tx n (p, false)).2) I R) := by
  have hm0 := hFR.2.2.2.2.2.1
  have hm1 := hFR.2.2.2.2.2.2.1
  have hm3 := hFR.2.2.2.2.2.2.2.1
  have hm5 := hFR.2.2.2.2.2.2.2.2.1
  have hm7 := hFR.2.2.2.2.2.2.2.2.2
  have t1 := hT.1
  have t2 := hT.2.1
  have t3 := hT.2.2
  refine Sp.on (by decide +kernel) rfl rfl (fun J hM => ?_)
  have hJ := hM.ok
  refine q_aload_n hJ dX11_valueEnd_0 (q := 1) rfl rfl (by first | rfl | exact isR_rr _) ?_
  refine q_iload_n hJ dX11_valueEnd_1 (q := 2) rfl rfl ?_
  refine q_callV hJ dX11_valueEnd_2 (q := 5) rfl (M_sign p (by omega) tx n I R hFR hT) imX11_sign ln_X11_164 (by first | exact ka317 | exact ka318 | exact ka319 | exact ka320 | exact ka321 | exact ka322) (by decide) rfl rfl rfl rfl (Nat.le_of_ble_eq_true rfl) (by decide) (by decide) rfl rfl (fun rv gv Iv Rv hv => ?_)
  obtain ⟨rfl, rfl, rfl, rfl⟩ := hv
  refine q_bipush hJ (v := 45) dX11_valueEnd_5 (q := 7) rfl (by decide) ?_
  refine q_icmp_ne hJ (tgt := 21) dX11_valueEnd_7 (q := 10) rfl (by decide) (fun c1 => ?_) (fun c1 => ?_)
  · refine q_aload_n hJ dX11_valueEnd_21 (q := 22) rfl rfl (by first | rfl | exact isR_rr _) ?_
    refine q_iload_n hJ dX11_valueEnd_22 (q := 23) rfl rfl ?_
    refine q_iconst hJ (v := 3) dX11_valueEnd_23 (q := 24) rfl (by decide) ?_
    refine q_callV hJ dX11_valueEnd_24 (q := 27) rfl (M_numberEnd p 3 (by omega) (by decide) tx n I R hFR hT) imX11_numberEnd ln_X11_171 (by first | exact ka317 | exact ka318 | exact ka319 | exact ka320 | exact ka321 | exact ka322) (by decide) rfl rfl rfl rfl (Nat.le_of_ble_eq_true rfl) (by decide) (by decide) rfl rfl (fun rv gv Iv Rv hv => ?_)
    obtain ⟨rfl, rfl, rfl, rfl⟩ := hv
    refine q_iret hM dX11_valueEnd_27 rfl rfl ?_
    first
      | exact ⟨iv (congrArg enc (val_45 c1).symm), rfl, rfl, rfl⟩
      | exact ⟨iv (congrArg enc (val_n45 c1).symm), rfl, rfl, rfl⟩
      | fail
  · refine q_aload_n hJ dX11_valueEnd_10 (q := 11) rfl rfl (by first | rfl | exact isR_rr _) ?_
    refine q_iload_n hJ dX11_valueEnd_11 (q := 12) rfl rfl ?_
    refine q_iconst hJ (v := 1) dX11_valueEnd_12 (q := 13) rfl (by decide) ?_
    refine q_iadd hJ dX11_valueEnd_13 (q := 14) rfl ?_
    rw [nI_1 p]
    refine q_iconst hJ (v := 3) dX11_valueEnd_14 (q := 15) rfl (by decide) ?_
    refine q_callV hJ dX11_valueEnd_15 (q := 18) rfl (M_numberEnd (p + 1) 3 (by omega) (by decide) tx n I R hFR hT) imX11_numberEnd ln_X11_171 (by first | exact ka317 | exact ka318 | exact ka319 | exact ka320 | exact ka321 | exact ka322) (by decide) rfl rfl rfl rfl (Nat.le_of_ble_eq_true rfl) (by decide) (by decide) rfl rfl (fun rv gv Iv Rv hv => ?_)
    obtain ⟨rfl, rfl, rfl, rfl⟩ := hv
    refine q_goto hJ (tgt := 27) dX11_valueEnd_18 (by decide) ?_
    refine q_iret hM dX11_valueEnd_27 rfl rfl ?_
    first
      | exact ⟨iv (congrArg enc (val_45 c1).symm), rfl, rfl, rfl⟩
      | exact ⟨iv (congrArg enc (val_n45 c1).symm), rfl, rfl, rfl⟩
      | fail

set_option maxRecDepth 100000 in
set_option maxHeartbeats 400000 in
theorem M_behind (p : Nat) (b : Bool) (hp : p < 150) (c : Int32) (hc : ¬ c = -1) (tx : Nat → Int32) (n : Nat) (I : MI) (R : MR) (hFR : FR R) (hT : TXM I tx n) : Sp 1 0 0 mX11_behind [.ref 317, .int (enc (p, b)), .int c] g0 I R (Mv (enc (passF tx n c (p, b))) I R) := by
  have hm0 := hFR.2.2.2.2.2.1
  have hm1 := hFR.2.2.2.2.2.2.1
  have hm3 := hFR.2.2.2.2.2.2.2.1
  have hm5 := hFR.2.2.2.2.2.2.2.2.1
  have hm7 := hFR.2.2.2.2.2.2.2.2.2
  have t1 := hT.1
  have t2 := hT.2.1
  have t3 := hT.2.2
  refine Sp.on (by decide +kernel) rfl rfl (fun J hM => ?_)
  have hJ := hM.ok
  rcases b with _ | _
  · have he : enc (p, false) = nI p := rfl
    skip
    refine q_iload_n hJ dX11_behind_0 (q := 1) rfl rfl ?_
    refine q_if_ge hJ (tgt := 8) dX11_behind_1 (q := 4) rfl (by decide) (fun _ => ?_) (fun c1 => absurd (nI_pos' (by omega)) c1)
    refine q_aload_n hJ dX11_behind_8 (q := 9) rfl rfl (by first | rfl | exact isR_rr _) ?_
    refine q_iload_n hJ dX11_behind_9 (q := 10) rfl rfl ?_
    refine q_callV hJ dX11_behind_10 (q := 13) rfl (M_sign p (by omega) tx n I R hFR hT) imX11_sign ln_X11_164 (by first | exact ka317 | exact ka318 | exact ka319 | exact ka320 | exact ka321 | exact ka322) (by decide) rfl rfl rfl rfl (Nat.le_of_ble_eq_true rfl) (by decide) (by decide) rfl rfl (fun rv gv Iv Rv hv => ?_)
    obtain ⟨rfl, rfl, rfl, rfl⟩ := hv
    refine q_iload_n hJ dX11_behind_13 (q := 14) rfl rfl ?_
    refine q_icmp_ne hJ (tgt := 23) dX11_behind_14 (q := 17) rfl (by decide) (fun c2 => ?_) (fun c2 => ?_)
    · refine q_iconst hJ (v := (-1)) dX11_behind_23 (q := 24) rfl (by decide) ?_
      refine q_iload_n hJ dX11_behind_24 (q := 25) rfl rfl ?_
      refine q_isub hJ dX11_behind_25 (q := 26) rfl ?_
      refine q_iret hM dX11_behind_26 rfl rfl ?_
      first
        | exact ⟨iv (by unfold passF; rw [if_pos c2]; exact nI_1 p), rfl, rfl, rfl⟩
        | exact ⟨iv (by unfold passF; rw [if_neg c2]; rfl), rfl, rfl, rfl⟩
        | fail
    · refine q_iload_n hJ dX11_behind_17 (q := 18) rfl rfl ?_
      refine q_iconst hJ (v := 1) dX11_behind_18 (q := 19) rfl (by decide) ?_
      refine q_iadd hJ dX11_behind_19 (q := 20) rfl ?_
      refine q_goto hJ (tgt := 26) dX11_behind_20 (by decide) ?_
      refine q_iret hM dX11_behind_26 rfl rfl ?_
      first
        | exact ⟨iv (by unfold passF; rw [if_pos c2]; exact nI_1 p), rfl, rfl, rfl⟩
        | exact ⟨iv (by unfold passF; rw [if_neg c2]; rfl), rfl, rfl, rfl⟩
        | fail
  · skip
    refine q_iload_n hJ dX11_behind_0 (q := 1) rfl rfl ?_
    refine q_if_ge hJ (tgt := 8) dX11_behind_1 (q := 4) rfl (by decide) (fun c1 => absurd c1 (Int32.not_le.mpr (enc_neg (by omega)))) (fun _ => ?_)
    refine q_iload_n hJ dX11_behind_4 (q := 5) rfl rfl ?_
    refine q_goto hJ (tgt := 26) dX11_behind_5 (by decide) ?_
    refine q_iret hM dX11_behind_26 rfl rfl ?_
    exact ⟨iv (by rw [pass_stay tx n hc]), rfl, rfl, rfl⟩

theorem pass_ok {tx : Nat → Int32} {n : Nat} {c : Int32} {P : PS} (h : (passF tx n c P).2 = false) : P.2 = false ∧ hereF tx n P = c ∧ passF tx n c P = (P.1 + 1, false) := by
  unfold passF at h ⊢
  by_cases e : hereF tx n P = c
  · rw [if_pos e] at h ⊢
    have h' : P.2 = false := h
    exact ⟨h', e, by rw [h']⟩
  · rw [if_neg e] at h; exact absurd h (by simp)
theorem enc_le {P : PS} (h : P.1 ≤ 200) : (0 ≤ enc P ↔ P.2 = false) := by
  obtain ⟨p, b⟩ := P
  rcases b with _ | _
  · exact ⟨fun _ => rfl, fun _ => nI_pos' (by have : p ≤ 200 := h; omega)⟩
  · exact ⟨fun z => absurd z (Int32.not_le.mpr (enc_neg h)), fun z => absurd z (by simp)⟩
set_option maxRecDepth 100000 in
set_option maxHeartbeats 400000 in
theorem M_valueBehind (p : Nat) (b : Bool) (hp : p < 120) (c : Int32) (hc : ¬ c = -1) (tx : Nat → Int32) (n : Nat) (I : MI) (R : MR) (hFR : FR R) (hT : TXM I tx n) : Sp 4 0 0 mX11_valueBehind [.ref 317, .int (enc (p, b)), .int c] g0 I R (Mv (enc (valF2 tx n (passF tx n c (p, b))).2) I R) := by
  have hm0 := hFR.2.2.2.2.2.1
  have hm1 := hFR.2.2.2.2.2.2.1
  have hm3 := hFR.2.2.2.2.2.2.2.1
  have hm5 := hFR.2.2.2.2.2.2.2.2.1
  have hm7 := hFR.2.2.2.2.2.2.2.2.2
  have t1 := hT.1
  have t2 := hT.2.1
  have t3 := hT.2.2
  refine Sp.on (by decide +kernel) rfl rfl (fun J hM => ?_)
  have hJ := hM.ok
  refine q_aload_n hJ dX11_valueBehind_0 (q := 1) rfl rfl (by first | rfl | exact isR_rr _) ?_
  refine q_iload_n hJ dX11_valueBehind_1 (q := 2) rfl rfl ?_
  refine q_iload_n hJ dX11_valueBehind_2 (q := 3) rfl rfl ?_
  refine q_callV hJ dX11_valueBehind_3 (q := 6) rfl (M_behind p b (by omega) c hc tx n I R hFR hT) imX11_behind ln_X11_174 (by first | exact ka317 | exact ka318 | exact ka319 | exact ka320 | exact ka321 | exact ka322) (by decide) rfl rfl rfl rfl (Nat.le_of_ble_eq_true rfl) (by decide) (by decide) rfl rfl (fun rv gv Iv Rv hv => ?_)
  obtain ⟨rfl, rfl, rfl, rfl⟩ := hv
  have hmono : (passF tx n c (p, b)).1 ≤ p + 1 := by
      unfold passF
      split
      · exact Nat.le_refl _
      · exact Nat.le_succ _
  obtain ⟨⟨q, b2⟩, hP⟩ : ∃ Q : PS, Q = passF tx n c (p, b) := ⟨_, rfl⟩
  rw [← hP] at hmono ⊢
  have hq : q ≤ p + 1 := hmono
  refine q_istore_n hJ dX11_valueBehind_6 (q := 7) rfl (by decide) ?_
  refine q_iload_n hJ dX11_valueBehind_7 (q := 8) rfl rfl ?_
  refine q_if_ge hJ (tgt := 15) dX11_valueBehind_8 (q := 11) rfl (by decide) (fun c1 => ?_) (fun c1 => ?_)
  · have e1 := (enc_le (P := (q, b2)) (by show q ≤ 200; omega)).mp c1
    have e2 : b2 = false := e1
    subst e2
    refine q_aload_n hJ dX11_valueBehind_15 (q := 16) rfl rfl (by first | rfl | exact isR_rr _) ?_
    refine q_iload_n hJ dX11_valueBehind_16 (q := 17) rfl rfl ?_
    refine q_callV hJ dX11_valueBehind_17 (q := 20) rfl (M_valueEnd q (by omega) tx n I R hFR hT) imX11_valueEnd ln_X11_177 (by first | exact ka317 | exact ka318 | exact ka319 | exact ka320 | exact ka321 | exact ka322) (by decide) rfl rfl rfl rfl (Nat.le_of_ble_eq_true rfl) (by decide) (by decide) rfl rfl (fun rv gv Iv Rv hv => ?_)
    obtain ⟨rfl, rfl, rfl, rfl⟩ := hv
    refine q_iret hM dX11_valueBehind_20 rfl rfl ?_
    first
      | exact ⟨iv (congrArg (fun Q => enc (valF2 tx n Q).2) hP), rfl, rfl, rfl⟩
      | (have e1 : ¬ b2 = false := fun z => c1 ((enc_le (P := (q, b2)) (by show q ≤ 200; omega)).mpr z)
         have e2 : b2 = true := by cases b2 <;> simp_all
         subst e2
         exact ⟨iv (by rw [← hP, val_stay]), rfl, rfl, rfl⟩)
      | fail
  · refine q_iload_n hJ dX11_valueBehind_11 (q := 12) rfl rfl ?_
    refine q_goto hJ (tgt := 20) dX11_valueBehind_12 (by decide) ?_
    refine q_iret hM dX11_valueBehind_20 rfl rfl ?_
    first
      | exact ⟨iv (congrArg (fun Q => enc (valF2 tx n Q).2) hP), rfl, rfl, rfl⟩
      | (have e1 : ¬ b2 = false := fun z => c1 ((enc_le (P := (q, b2)) (by show q ≤ 200; omega)).mpr z)
         have e2 : b2 = true := by cases b2 <;> simp_all
         subst e2
         exact ⟨iv (by rw [← hP, val_stay]), rfl, rfl, rfl⟩)
      | fail

def insP1 (tx : Nat → Int32) (n p : Nat) : PS := (numF2 tx n 2 (p, false)).2
theorem mono_all {tx : Nat → Int32} {n : Nat} {P : PS} (h : P.1 ≤ n + 1) : (numF2 tx n 2 P).2.1 ≤ n + 1 ∧ (valF2 tx n P).2.1 ≤ n + 1 ∧ ∀ c, ¬ c = -1 → (passF tx n c P).1 ≤ n + 1 := by
  by_cases e : P.1 ≤ n
  · exact ⟨Nat.le_trans (num_mono e).2 (Nat.le_succ _), Nat.le_trans (val_mono e).2 (Nat.le_succ _), fun c hc => Nat.le_trans (pass_mono hc e).2 (Nat.le_succ _)⟩
  · have hh : hereF tx n P = -1 := by
      unfold hereF
      by_cases b : P.2 = true
      · rw [if_pos b]
      · rw [if_neg b, if_pos (by omega)]
    have hd : ∀ m, digF tx n m P = (0, (P.1, true)) := fun m => by
      unfold digF
      rw [hh, if_pos (by unfold dgF; rw [if_pos (by decide)])]
    have hn : ∀ m, numF2 tx n m P = (0, (P.1, true)) := fun m => by
      unfold numF2
      rw [hd]
      exact nm_zero _ _ _ _
    refine ⟨by rw [hn]; exact h, ?_, fun c hc => ?_⟩
    · unfold valF2
      rw [hh, if_neg (by decide), hn]; exact h
    · unfold passF
      rw [hh, if_neg (fun z => hc z.symm)]; exact h
set_option maxRecDepth 100000 in
set_option maxHeartbeats 400000 in
theorem M_insertEnd (tx : Nat → Int32) (n : Nat) (p : Nat) (hpn : p ≤ n + 1) (I : MI) (R : MR) (hFR : FR R) (hT : TXM I tx n) : Sp 5 0 0 mX11_insertEnd [.ref 317, .int (nI p)] g0 I R (Mv (enc (valF2 tx n (passF tx n 44 (valF2 tx n (passF tx n 44 (valF2 tx n (passF tx n 61 (numF2 tx n 2 (p, false)).2)).2)).2)).2) I R) := by
  have hm0 := hFR.2.2.2.2.2.1
  have hm1 := hFR.2.2.2.2.2.2.1
  have hm3 := hFR.2.2.2.2.2.2.2.1
  have hm5 := hFR.2.2.2.2.2.2.2.2.1
  have hm7 := hFR.2.2.2.2.2.2.2.2.2
  have t1 := hT.1
  have t2 := hT.2.1
  have t3 := hT.2.2
  refine Sp.on (by decide +kernel) rfl rfl (fun J hM => ?_)
  have hJ := hM.ok
  refine q_aload_n hJ dX11_insertEnd_0 (q := 1) rfl rfl (by first | rfl | exact isR_rr _) ?_
  refine q_aload_n hJ dX11_insertEnd_1 (q := 2) rfl rfl (by first | rfl | exact isR_rr _) ?_
  refine q_iload_n hJ dX11_insertEnd_2 (q := 3) rfl rfl ?_
  refine q_iconst hJ (v := 2) dX11_insertEnd_3 (q := 4) rfl (by decide) ?_
  refine q_callV hJ dX11_insertEnd_4 (q := 7) rfl (M_numberEnd p 2 (by omega) (by decide) tx n I R hFR hT) imX11_numberEnd ln_X11_171 (by first | exact ka317 | exact ka318 | exact ka319 | exact ka320 | exact ka321 | exact ka322) (by decide) rfl rfl rfl rfl (Nat.le_of_ble_eq_true rfl) (by decide) (by decide) rfl rfl (fun rv gv Iv Rv hv => ?_)
  obtain ⟨rfl, rfl, rfl, rfl⟩ := hv
  obtain ⟨Q1, hQ1⟩ : ∃ Q : PS, Q = (numF2 tx n 2 (p, false)).2 := ⟨_, rfl⟩
  have l1 : Q1.1 ≤ n + 1 := by rw [hQ1]; exact (mono_all (P := (p, false)) hpn).1
  rw [← hQ1]
  refine q_bipush hJ (v := 61) dX11_insertEnd_7 (q := 9) rfl (by decide) ?_
  refine q_callV hJ dX11_insertEnd_9 (q := 12) rfl (M_valueBehind Q1.1 Q1.2 (by have := l1; omega) 61 (by decide) tx n I R hFR hT) imX11_valueBehind ln_X11_180 (by first | exact ka317 | exact ka318 | exact ka319 | exact ka320 | exact ka321 | exact ka322) (by decide) rfl rfl rfl rfl (Nat.le_of_ble_eq_true rfl) (by decide) (by decide) rfl rfl (fun rv gv Iv Rv hv => ?_)
  obtain ⟨rfl, rfl, rfl, rfl⟩ := hv
  obtain ⟨Q2, hQ2⟩ : ∃ Q : PS, Q = (valF2 tx n (passF tx n 61 Q1)).2 := ⟨_, rfl⟩
  have l2 : Q2.1 ≤ n + 1 := by rw [hQ2]; exact (mono_all ((mono_all l1).2.2 61 (by decide))).2.1
  rw [show (valF2 tx n (passF tx n 61 (Q1.1, Q1.2))).2 = Q2 from hQ2.symm]
  refine q_istore_n hJ dX11_insertEnd_12 (q := 13) rfl (by decide) ?_
  refine q_aload_n hJ dX11_insertEnd_13 (q := 14) rfl rfl (by first | rfl | exact isR_rr _) ?_
  refine q_iload_n hJ dX11_insertEnd_14 (q := 15) rfl rfl ?_
  refine q_bipush hJ (v := 44) dX11_insertEnd_15 (q := 17) rfl (by decide) ?_
  refine q_callV hJ dX11_insertEnd_17 (q := 20) rfl (M_valueBehind Q2.1 Q2.2 (by have := l2; omega) 44 (by decide) tx n I R hFR hT) imX11_valueBehind ln_X11_180 (by first | exact ka317 | exact ka318 | exact ka319 | exact ka320 | exact ka321 | exact ka322) (by decide) rfl rfl rfl rfl (Nat.le_of_ble_eq_true rfl) (by decide) (by decide) rfl rfl (fun rv gv Iv Rv hv => ?_)
  obtain ⟨rfl, rfl, rfl, rfl⟩ := hv
  obtain ⟨Q3, hQ3⟩ : ∃ Q : PS, Q = (valF2 tx n (passF tx n 44 Q2)).2 := ⟨_, rfl⟩
  have l3 : Q3.1 ≤ n + 1 := by rw [hQ3]; exact (mono_all ((mono_all l2).2.2 44 (by decide))).2.1
  rw [show (valF2 tx n (passF tx n 44 (Q2.1, Q2.2))).2 = Q3 from hQ3.symm]
  refine q_istore_n hJ dX11_insertEnd_20 (q := 21) rfl (by decide) ?_
  refine q_aload_n hJ dX11_insertEnd_21 (q := 22) rfl rfl (by first | rfl | exact isR_rr _) ?_
  refine q_iload_n hJ dX11_insertEnd_22 (q := 23) rfl rfl ?_
  refine q_bipush hJ (v := 44) dX11_insertEnd_23 (q := 25) rfl (by decide) ?_
  refine q_callV hJ dX11_insertEnd_25 (q := 28) rfl (M_valueBehind Q3.1 Q3.2 (by have := l3; omega) 44 (by decide) tx n I R hFR hT) imX11_valueBehind ln_X11_180 (by first | exact ka317 | exact ka318 | exact ka319 | exact ka320 | exact ka321 | exact ka322) (by decide) rfl rfl rfl rfl (Nat.le_of_ble_eq_true rfl) (by decide) (by decide) rfl rfl (fun rv gv Iv Rv hv => ?_)
  obtain ⟨rfl, rfl, rfl, rfl⟩ := hv
  refine q_iret hM dX11_insertEnd_28 rfl rfl ?_
  exact ⟨iv (by rw [← hQ1, ← hQ2, ← hQ3]), rfl, rfl, rfl⟩

