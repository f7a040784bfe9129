/-! THE LAW'S METHODS: inserts, updates, deletes -/
def DoP : Po := fun r g' I' R' => r = some (.int 1) ∧ g0 = g' ∧ ∃ A', Ob I' R' A' ∧ Good A'
theorem VI.in {x : Int32} (h : VI x) : ¬ inR x (-999) 999 = 0 := by
  unfold inR
  rw [if_neg h.1, if_neg h.2]
  decide
theorem VI.ne {x : Int32} (h : VI x) : ¬ x = -1001 := fun z => h.1 (by rw [z]; decide)
theorem key_inR {q : Nat} (h : q < 100) : ¬ inR (nI q) 0 99 = 0 := by
  unfold inR
  rw [if_neg (nI_pos (n := q) (by omega)), if_neg (show ¬ (99 : Int32) < nI q from nI_nlt (a := 99) (b := q) (by omega) (by decide))]
  decide
theorem three_inR {f : Nat} (h : f < 3) : ¬ inR (nI f) 0 2 = 0 := by
  rcases (show f = 0 ∨ f = 1 ∨ f = 2 by omega) with rfl | rfl | rfl <;> decide
theorem fnd_row {A : AS} {k : Int32} {i : Nat} (h : fK A k = some i) : i < aN A ∧ aK A i 0 = k := by
  obtain ⟨_, h2, h3, _⟩ := fndF_some h
  exact ⟨by omega, h3⟩
theorem fld_no {A : AS} {k : Int32} (h : fK A k = none) (f : Int32) : fieldF A k f = -1001 := by rw [fieldF, h]
theorem dl_run {A : AS} {k : Int32} {i G : Nat} (hA : Good A) (hG : aS A 0 = nI G) (h1 : 1 ≤ G) (h8 : G ≤ 8) (hf : fK A k = some i) : Run A G (XR 2 (dltI A k) A) := by
  obtain ⟨hi, hk⟩ := fnd_row hf
  have e : dltI A k = aK A i := by rw [dltI, hf]
  rw [e]
  exact XR_I hA.1 hA.2.1 hA.2.2.1 hG h1 h8 (hA.2.1.row hi) (Or.inr ⟨Or.inr rfl, i, by rw [hk]; exact hf⟩)
theorem up_run {A : AS} {k f v : Int32} {i G : Nat} (hA : Good A) (hG : aS A 0 = nI G) (h1 : 1 ≤ G) (h8 : G ≤ 8) (hf : fK A k = some i) (hv : VI v) : Run A G (XR 1 (updI A k f v) A) := by
  obtain ⟨hi, hk⟩ := fnd_row hf
  have e : updI A k f v = chgF (aK A i) f v := by rw [updI, hf]
  rw [e]
  exact XR_I hA.1 hA.2.1 hA.2.2.1 hG h1 h8 ((hA.2.1.row hi).chg f hv) (Or.inr ⟨Or.inl rfl, i, by rw [chgF_0, hk]; exact hf⟩)
theorem in_run {A : AS} {z o t : Int32} {q G : Nat} (hA : Good A) (hG : aS A 0 = nI G) (h1 : 1 ≤ G) (h8 : G ≤ 8) (hf : fK A (nI q) = none) (hn : aN A < 20) (hq : q < 100) (hz : VI z) (ho : VI o) (ht : VI t) : Run A G (XR 0 (insI (nI q) z o t) A) := by
  refine XR_I hA.1 hA.2.1 hA.2.2.1 hG h1 h8 ⟨⟨q, hq, rfl⟩, hz, ho, ht⟩ (Or.inl ⟨rfl, ?_⟩)
  show cantA A (nI q) = 1
  rw [cantA, if_neg (key_inR hq), hf, if_neg (by decide), if_pos hn]
theorem one_VI : VI 1 := ⟨by decide, by decide⟩
theorem ins_F {A : AS} {o t : Int32} {q : Nat} (hq : q < 100) (ho : VI o) (ht : VI t) : insF A (nI q) 1 o t = if (fK A (nI q)).isSome then -1004 else if aN A < 20 then 0 else -1003 := by
  rw [insF, if_neg (key_inR hq), if_neg one_VI.in, if_neg ho.in, if_neg ht.in]
theorem upd_F {A : AS} {v : Int32} {k : Int32} {i f : Nat} (hf : fK A k = some i) (h3 : f < 3) (hv : VI v) : updF A k (nI f) v = if rowF (aK A i) (nI f) = v then -1006 else 0 := by
  rw [updF, hf]
  show (if inR (nI f) 0 2 = 0 then _ else if inR v (-999) 999 = 0 then _ else _) = _
  rw [if_neg (three_inR h3), if_neg hv.in]
theorem ifV_0 {ft : Int32} {X : XS} {q : Nat} (h : ft = 0) (hq : q < 5) : ifV ft (nI q) X = telX X (nI q) := by
  rw [ifV, if_pos h, if_neg]
  rcases (show q = 0 ∨ q = 1 ∨ q = 2 ∨ q = 3 ∨ q = 4 by omega) with rfl | rfl | rfl | rfl | rfl <;> decide
theorem ifU_0 {ft : Int32} {X : XS} {q : Nat} (h : ft = 0) (hq : q < 5) : ifU ft (nI q) X = telX X (nI q) := by
  rw [ifU, if_pos h, if_neg]
  rcases (show q = 0 ∨ q = 1 ∨ q = 2 ∨ q = 3 ∨ q = 4 by omega) with rfl | rfl | rfl | rfl | rfl <;> decide
theorem ifV_n {ft w : Int32} {X : XS} (h : ¬ ft = 0) : ifV ft w X = ft := if_neg h
theorem stR_0 {ft ev : Int32} {img : Nat → Int32} {A : AS} (h : ft = 0) : stR ft ev img A = runR (XR ev img A) := if_pos h
theorem stR_n {ft ev : Int32} {img : Nat → Int32} {A : AS} (h : ¬ ft = 0) : stR ft ev img A = ft := if_neg h
theorem T5.of {I' I2 : MI} {X : XS} (h : ∀ k, k < 5 → I' 317 k = telX X (nI k)) (h2 : ∀ k, k < 5 → I2 317 k = I' 317 k) : T5 I2 X :=
  ⟨(h2 0 (by decide)).trans (h 0 (by decide)), (h2 1 (by decide)).trans (h 1 (by decide)), (h2 2 (by decide)).trans (h 2 (by decide)), (h2 3 (by decide)).trans (h 3 (by decide)), (h2 4 (by decide)).trans (h 4 (by decide))⟩
theorem T4.of {I2 : MI} {A : AS} (h : ∀ k, k < 4 → I2 317 (5 + k) = stTell A (nI (5 + k))) : T4 I2 A := ⟨h 0 (by decide), h 1 (by decide), h 2 (by decide), h 3 (by decide)⟩
theorem T5.moved {I I' : MI} {X : XS} (h : T5 I X) (e : I' 317 = I 317) : T5 I' X := by
  unfold T5 at h ⊢
  rw [e]; exact h
theorem T4.moved {I I' : MI} {A : AS} (h : T4 I A) (e : I' 317 = I 317) : T4 I' A := by
  unfold T4 at h ⊢
  rw [e]; exact h
theorem tel_put {I' Iv : MI} {X : XS} {q : Nat} {v : Int32} (h3 : ∀ k, k < q → I' 317 k = telX X (nI k)) (e : Iv 317 = I' 317) (hv : v = telX X (nI q)) : ∀ k, k < q + 1 → up2 Iv 317 q v 317 k = telX X (nI k) := fun k hk => by
  show (if 317 = 317 ∧ k = q then v else Iv 317 k) = _
  by_cases z : k = q
  · rw [if_pos ⟨rfl, z⟩, hv, z]
  · rw [if_neg (fun y => z y.2), e]; exact h3 k (by omega)
set_option maxRecDepth 100000 in
set_option maxHeartbeats 1000000 in
theorem S_deletes (A : AS) (k : Int32) (I : MI) (R : MR) (hO : Ob I R A) (hA : Good A) : Sp 40 0 0 mL_deletes [.ref 0, .ref 317, .int k] g0 I R (DoP) := by
  refine Sp.on (by decide +kernel) rfl rfl (fun J hM => ?_)
  have hJ := hM.ok
  obtain ⟨G, h1, h8, hG⟩ := hA.1.2.2
  rcases hf : fK A k with _ | i
  · have h0 : dltF A k = -1001 := by rw [dltF, hf]; rfl
    have h0n : ¬ dltF A k = 0 := by rw [h0]; decide
    refine q_aload_n hJ dL_deletes_0 (q := 1) rfl rfl rfl ?_
    refine q_iload_n hJ dL_deletes_1 (q := 2) rfl rfl ?_
    refine q_iconst hJ (v := 0) dL_deletes_2 (q := 3) rfl (by decide) ?_
    refine q_callV hJ dL_deletes_3 (q := 6) rfl ((O_field k 0 hO).val (fld_no hf 0)) imX10_field ln_L_23 ka_x (by decide) rfl rfl rfl rfl (Nat.le_of_ble_eq_true rfl) (by decide) (by decide) rfl rfl (fun rv gv Iv Rv hv => ?_)
    obtain ⟨rfl, rfl, rfl, rfl⟩ := hv
    refine q_sipush hJ (v := (-1001)) dL_deletes_6 (q := 9) rfl (by decide) ?_
    refine q_icmp_ne hJ (tgt := 42) dL_deletes_9 (q := 12) rfl (by decide) (fun c1 => absurd rfl c1) (fun _ => ?_)
    refine q_aload_n hJ dL_deletes_12 (q := 13) rfl rfl rfl ?_
    refine q_iload_n hJ dL_deletes_13 (q := 14) rfl rfl ?_
    refine q_callV hJ dL_deletes_14 (q := 17) rfl ((O_delete k hO).valO ((stR_n h0n).trans h0) (if_neg h0n)) imX10_delete ln_L_72 ka_x (by decide) rfl rfl rfl rfl (Nat.le_of_ble_eq_true rfl) (by decide) (by decide) rfl rfl (fun rv gv Iv Rv hv => ?_)
    obtain ⟨rfl, rfl, hO1, hT1⟩ := hv
    refine q_sipush hJ (v := (-1001)) dL_deletes_17 (q := 20) rfl (by decide) ?_
    refine q_icmp_ne hJ (tgt := 40) dL_deletes_20 (q := 23) rfl (by decide) (fun c2 => absurd rfl c2) (fun _ => ?_)
    refine q_aload_n hJ dL_deletes_23 (q := 24) rfl rfl rfl ?_
    refine q_iload_n hJ dL_deletes_24 (q := 25) rfl rfl ?_
    refine q_bipush hJ (v := 7) dL_deletes_25 (q := 27) rfl (by decide) ?_
    refine q_callV hJ dL_deletes_27 (q := 30) rfl ((O_ifDel k 7 hO1).valO ((ifV_n h0n).trans h0) rfl) imX10_ifDeleted ln_L_75 ka_x (by decide) rfl rfl rfl rfl (Nat.le_of_ble_eq_true rfl) (by decide) (by decide) rfl rfl (fun rv gv Iv Rv hv => ?_)
    obtain ⟨rfl, rfl, hO2, hT2⟩ := hv
    refine q_sipush hJ (v := (-1001)) dL_deletes_30 (q := 33) rfl (by decide) ?_
    refine q_icmp_ne hJ (tgt := 40) dL_deletes_33 (q := 36) rfl (by decide) (fun c3 => absurd rfl c3) (fun _ => ?_)
    refine q_iconst hJ (v := 1) dL_deletes_36 (q := 37) rfl (by decide) ?_
    refine q_goto hJ (tgt := 41) dL_deletes_37 (by decide) ?_
    refine q_iret hM dL_deletes_41 rfl (by decide) ?_
    exact ⟨rfl, rfl, _, hO2, hA⟩
  · have h0 : dltF A k = 0 := by rw [dltF, hf]; rfl
    have hne : ¬ fieldF A k 0 = -1001 := by
      have h := fld_at (f := 0) hf (by decide)
      exact VI.ne (by rw [show fieldF A k 0 = _ from h]; exact row_VI (f := 0) (hA.2.1.row (fnd_row hf).1) (by decide))
    have hrun := dl_run hA hG h1 h8 hf
    have hOb : xO (XR 2 (dltI A k) A) ≤ 100 := hrun.choose_spec.2.2.2.2.1
    have loop : ∀ (m q : Nat) (I' : MI) (R' : MR), m + q = 5 → Ob I' R' A → (∀ kk, kk < q → I' 317 kk = telX (XR 2 (dltI A k) A) (nI kk)) → J 0 0 44 [some (.ref 0), some (.ref 317), some (.int (k)), some (.int (nI q)), none] [] g0 I' R' := by
      intro m
      induction m with
      | zero =>
        intro q I' R' hq hO' h3
        by_cases hz : xR (XR 2 (dltI A k) A) = 0
        · refine q_iload_n hJ dL_deletes_44 (q := 45) rfl rfl ?_
          refine q_iconst hJ (v := 5) dL_deletes_45 (q := 46) rfl (by decide) ?_
          refine q_icmp_ge hJ (tgt := 64) dL_deletes_46 (q := 49) rfl (by decide) (fun _ => ?_) (fun c1 => absurd ((nI_leI (a := 5) (b := q) (by decide) (by omega)).mpr (by omega)) c1)
          refine q_aload_n hJ dL_deletes_64 (q := 65) rfl rfl rfl ?_
          refine q_aload_n hJ dL_deletes_65 (q := 66) rfl rfl rfl ?_
          refine q_callS hJ dL_deletes_66 (q := 69) rfl (S_totals A I' R' hO') imL_totals ln_L_55 rfl rfl rfl (Nat.le_of_ble_eq_true rfl) (by decide) (by decide) rfl rfl (fun rv gv Iv Rv hv => ?_)
          obtain ⟨rfl, rfl, rfl, hu1, hu2, hu3⟩ := hv
          have hO2 := hO'.lo (fun a ha => hu1 a (by omega))
          have hT5 := T5.of (fun k hk => h3 k (by omega)) hu2
          have hT4 := T4.of hu3
          refine q_aload_n hJ dL_deletes_69 (q := 70) rfl rfl rfl ?_
          refine q_iconst hJ (v := 0) dL_deletes_70 (q := 71) rfl (by decide) ?_
          refine q_callV hJ dL_deletes_71 (q := 74) rfl ((O_total 0 (by decide) (by decide) hO2).val (w := nI (aN A)) rfl) imX10_total ln_L_14 ka_x (by decide) rfl rfl rfl rfl (Nat.le_of_ble_eq_true rfl) (by decide) (by decide) rfl rfl (fun rv gv Iv Rv hv => ?_)
          obtain ⟨rfl, rfl, rfl, rfl⟩ := hv
          refine q_istore_n hJ dL_deletes_74 (q := 75) rfl (by decide) ?_
          refine q_aload_n hJ dL_deletes_75 (q := 76) rfl rfl rfl ?_
          refine q_iload_n hJ dL_deletes_76 (q := 77) rfl rfl ?_
          refine q_callV hJ dL_deletes_77 (q := 80) rfl ((O_delete k hO2).valO (stR_0 h0) (if_pos h0)) imX10_delete ln_L_72 ka_x (by decide) rfl rfl rfl rfl (Nat.le_of_ble_eq_true rfl) (by decide) (by decide) rfl rfl (fun rv gv Iv Rv hv => ?_)
          obtain ⟨rfl, rfl, hO3, hT3⟩ := hv
          refine q_istore hJ dL_deletes_80 (q := 82) rfl (by decide) ?_
          refine q_aload_n hJ dL_deletes_82 (q := 83) rfl rfl rfl ?_
          refine q_aload_n hJ dL_deletes_83 (q := 84) rfl rfl rfl ?_
          refine q_iload hJ dL_deletes_84 (q := 86) rfl rfl ?_
          refine q_callS hJ dL_deletes_86 (q := 89) rfl (S_came A (XR 2 (dltI A k) A) G _ _ hO3 hA hrun hG h8 (hT5.moved hT3) (hT4.moved hT3)) imL_came ln_L_59 rfl rfl rfl (Nat.le_of_ble_eq_true rfl) (by decide) (by decide) rfl rfl (fun rv gv Iv Rv hv => ?_)
          obtain ⟨rfl, rfl, rfl, rfl⟩ := hv
          refine q_if_eq hJ (tgt := 122) dL_deletes_89 (q := 92) rfl (by decide) (fun c2 => absurd c2 (by decide)) (fun _ => ?_)
          refine q_iload hJ dL_deletes_92 (q := 94) rfl rfl ?_
          rw [runR, if_pos hz]
          refine q_if_ge hJ (tgt := 118) dL_deletes_94 (q := 97) rfl (by decide) (fun _ => ?_) (fun c3 => absurd (nI_pos' (by omega)) c3)
          refine q_iconst hJ (v := 1) dL_deletes_118 (q := 119) rfl (by decide) ?_
          refine q_goto hJ (tgt := 123) dL_deletes_119 (by decide) ?_
          refine q_iret hM dL_deletes_123 rfl (by decide) ?_
          exact ⟨rfl, rfl, _, hO3, (hA.res hrun)⟩
        · refine q_iload_n hJ dL_deletes_44 (q := 45) rfl rfl ?_
          refine q_iconst hJ (v := 5) dL_deletes_45 (q := 46) rfl (by decide) ?_
          refine q_icmp_ge hJ (tgt := 64) dL_deletes_46 (q := 49) rfl (by decide) (fun _ => ?_) (fun c1 => absurd ((nI_leI (a := 5) (b := q) (by decide) (by omega)).mpr (by omega)) c1)
          refine q_aload_n hJ dL_deletes_64 (q := 65) rfl rfl rfl ?_
          refine q_aload_n hJ dL_deletes_65 (q := 66) rfl rfl rfl ?_
          refine q_callS hJ dL_deletes_66 (q := 69) rfl (S_totals A I' R' hO') imL_totals ln_L_55 rfl rfl rfl (Nat.le_of_ble_eq_true rfl) (by decide) (by decide) rfl rfl (fun rv gv Iv Rv hv => ?_)
          obtain ⟨rfl, rfl, rfl, hu1, hu2, hu3⟩ := hv
          have hO2 := hO'.lo (fun a ha => hu1 a (by omega))
          have hT5 := T5.of (fun k hk => h3 k (by omega)) hu2
          have hT4 := T4.of hu3
          refine q_aload_n hJ dL_deletes_69 (q := 70) rfl rfl rfl ?_
          refine q_iconst hJ (v := 0) dL_deletes_70 (q := 71) rfl (by decide) ?_
          refine q_callV hJ dL_deletes_71 (q := 74) rfl ((O_total 0 (by decide) (by decide) hO2).val (w := nI (aN A)) rfl) imX10_total ln_L_14 ka_x (by decide) rfl rfl rfl rfl (Nat.le_of_ble_eq_true rfl) (by decide) (by decide) rfl rfl (fun rv gv Iv Rv hv => ?_)
          obtain ⟨rfl, rfl, rfl, rfl⟩ := hv
          refine q_istore_n hJ dL_deletes_74 (q := 75) rfl (by decide) ?_
          refine q_aload_n hJ dL_deletes_75 (q := 76) rfl rfl rfl ?_
          refine q_iload_n hJ dL_deletes_76 (q := 77) rfl rfl ?_
          refine q_callV hJ dL_deletes_77 (q := 80) rfl ((O_delete k hO2).valO (stR_0 h0) (if_pos h0)) imX10_delete ln_L_72 ka_x (by decide) rfl rfl rfl rfl (Nat.le_of_ble_eq_true rfl) (by decide) (by decide) rfl rfl (fun rv gv Iv Rv hv => ?_)
          obtain ⟨rfl, rfl, hO3, hT3⟩ := hv
          refine q_istore hJ dL_deletes_80 (q := 82) rfl (by decide) ?_
          refine q_aload_n hJ dL_deletes_82 (q := 83) rfl rfl rfl ?_
          refine q_aload_n hJ dL_deletes_83 (q := 84) rfl rfl rfl ?_
          refine q_iload hJ dL_deletes_84 (q := 86) rfl rfl ?_
          refine q_callS hJ dL_deletes_86 (q := 89) rfl (S_came A (XR 2 (dltI A k) A) G _ _ hO3 hA hrun hG h8 (hT5.moved hT3) (hT4.moved hT3)) imL_came ln_L_59 rfl rfl rfl (Nat.le_of_ble_eq_true rfl) (by decide) (by decide) rfl rfl (fun rv gv Iv Rv hv => ?_)
          obtain ⟨rfl, rfl, rfl, rfl⟩ := hv
          refine q_if_eq hJ (tgt := 122) dL_deletes_89 (q := 92) rfl (by decide) (fun c2 => absurd c2 (by decide)) (fun _ => ?_)
          refine q_iload hJ dL_deletes_92 (q := 94) rfl rfl ?_
          rw [runR, if_neg hz]
          refine q_if_ge hJ (tgt := 118) dL_deletes_94 (q := 97) rfl (by decide) (fun c3 => absurd c3 (by decide)) (fun _ => ?_)
          rw [resA, if_neg hz] at hO3
          refine q_aload_n hJ dL_deletes_97 (q := 98) rfl rfl rfl ?_
          refine q_iconst hJ (v := 0) dL_deletes_98 (q := 99) rfl (by decide) ?_
          refine q_callV hJ dL_deletes_99 (q := 102) rfl ((O_total 0 (by decide) (by decide) hO3).val (w := nI (aN A)) rfl) imX10_total ln_L_14 ka_x (by decide) rfl rfl rfl rfl (Nat.le_of_ble_eq_true rfl) (by decide) (by decide) rfl rfl (fun rv gv Iv Rv hv => ?_)
          obtain ⟨rfl, rfl, rfl, rfl⟩ := hv
          refine q_iload_n hJ dL_deletes_102 (q := 103) rfl rfl ?_
          refine q_icmp_ne hJ (tgt := 122) dL_deletes_103 (q := 106) rfl (by decide) (fun c4 => absurd rfl c4) (fun _ => ?_)
          refine q_aload_n hJ dL_deletes_106 (q := 107) rfl rfl rfl ?_
          refine q_iload_n hJ dL_deletes_107 (q := 108) rfl rfl ?_
          refine q_iconst hJ (v := 0) dL_deletes_108 (q := 109) rfl (by decide) ?_
          refine q_callV hJ dL_deletes_109 (q := 112) rfl (O_field k 0 hO3) imX10_field ln_L_23 ka_x (by decide) rfl rfl rfl rfl (Nat.le_of_ble_eq_true rfl) (by decide) (by decide) rfl rfl (fun rv gv Iv Rv hv => ?_)
          obtain ⟨rfl, rfl, rfl, rfl⟩ := hv
          refine q_sipush hJ (v := (-1001)) dL_deletes_112 (q := 115) rfl (by decide) ?_
          refine q_icmp_eq hJ (tgt := 122) dL_deletes_115 (q := 118) rfl (by decide) (fun c5 => absurd c5 hne) (fun _ => ?_)
          refine q_iconst hJ (v := 1) dL_deletes_118 (q := 119) rfl (by decide) ?_
          refine q_goto hJ (tgt := 123) dL_deletes_119 (by decide) ?_
          refine q_iret hM dL_deletes_123 rfl (by decide) ?_
          exact ⟨rfl, rfl, _, hO3, hA⟩
      | succ m ih =>
        intro q I' R' hq hO' h3
        refine q_iload_n hJ dL_deletes_44 (q := 45) rfl rfl ?_
        refine q_iconst hJ (v := 5) dL_deletes_45 (q := 46) rfl (by decide) ?_
        refine q_icmp_ge hJ (tgt := 64) dL_deletes_46 (q := 49) rfl (by decide) (fun c1 => absurd c1 (nle (a := q) (b := 5) (by omega) (by decide))) (fun _ => ?_)
        refine q_aload_n hJ dL_deletes_49 (q := 50) rfl rfl rfl ?_
        refine q_iload_n hJ dL_deletes_50 (q := 51) rfl rfl ?_
        refine q_aload_n hJ dL_deletes_51 (q := 52) rfl rfl rfl ?_
        refine q_iload_n hJ dL_deletes_52 (q := 53) rfl rfl ?_
        refine q_iload_n hJ dL_deletes_53 (q := 54) rfl rfl ?_
        refine q_callV hJ dL_deletes_54 (q := 57) rfl ((O_ifDel k (nI q) hO').valO (ifV_0 h0 (by omega)) rfl) imX10_ifDeleted ln_L_75 ka_x (by decide) rfl rfl rfl rfl (Nat.le_of_ble_eq_true rfl) (by decide) (by decide) rfl rfl (fun rv gv Iv Rv hv => ?_)
        obtain ⟨rfl, rfl, hO1, hT1⟩ := hv
        refine q_iast hJ dL_deletes_57 (q := 58) rfl ka_t (ix_t (by omega)) ?_
        refine q_iinc hJ dL_deletes_58 (q := 61) rfl (by decide) rfl (nI_1 q) ?_
        refine q_goto hJ (tgt := 44) dL_deletes_61 (by decide) ?_
        exact ih (q + 1) _ _ (by omega) (hO1.t _ _) (tel_put h3 hT1 rfl)
    refine q_aload_n hJ dL_deletes_0 (q := 1) rfl rfl rfl ?_
    refine q_iload_n hJ dL_deletes_1 (q := 2) rfl rfl ?_
    refine q_iconst hJ (v := 0) dL_deletes_2 (q := 3) rfl (by decide) ?_
    refine q_callV hJ dL_deletes_3 (q := 6) rfl (O_field k 0 hO) imX10_field ln_L_23 ka_x (by decide) rfl rfl rfl rfl (Nat.le_of_ble_eq_true rfl) (by decide) (by decide) rfl rfl (fun rv gv Iv Rv hv => ?_)
    obtain ⟨rfl, rfl, rfl, rfl⟩ := hv
    refine q_sipush hJ (v := (-1001)) dL_deletes_6 (q := 9) rfl (by decide) ?_
    refine q_icmp_ne hJ (tgt := 42) dL_deletes_9 (q := 12) rfl (by decide) (fun _ => ?_) (fun c1 => absurd c1 hne)
    refine q_iconst hJ (v := 0) dL_deletes_42 (q := 43) rfl (by decide) ?_
    refine q_istore_n hJ dL_deletes_43 (q := 44) rfl (by decide) ?_
    exact loop 5 0 _ _ rfl hO (fun k hk => absurd hk (Nat.not_lt_zero _))

set_option maxRecDepth 100000 in
set_option maxHeartbeats 1000000 in
theorem S_inserts (A : AS) (v : Int32) (kq : Nat) (hkq : kq < 100) (I : MI) (R : MR) (hO : Ob I R A) (hA : Good A) : Sp 40 0 0 mL_inserts [.ref 0, .ref 317, .int v, .int (nI kq)] g0 I R (DoP) := by
  refine Sp.on (by decide +kernel) rfl rfl (fun J hM => ?_)
  have hJ := hM.ok
  obtain ⟨G, h1, h8, hG⟩ := hA.1.2.2
  have hN := hA.2.1.1
  rcases hf : fK A (nI kq) with _ | i
  · by_cases hn20 : aN A = 20
    · refine q_iload_n hJ dL_inserts_0 (q := 1) rfl rfl ?_
      refine q_iconst hJ (v := 4) dL_inserts_1 (q := 2) rfl (by decide) ?_
      refine q_ishr hJ dL_inserts_2 (q := 3) rfl ?_
      refine q_callS hJ dL_inserts_3 (q := 6) rfl (S_value _ I R) imL_value ln_L_44 rfl rfl rfl (Nat.le_of_ble_eq_true rfl) (by decide) (by decide) rfl rfl (fun rv gv Iv Rv hv => ?_)
      obtain ⟨x1, hx1, rfl, rfl, rfl, rfl⟩ := hv
      refine q_istore hJ dL_inserts_6 (q := 8) rfl (by decide) ?_
      refine q_iload_n hJ dL_inserts_8 (q := 9) rfl rfl ?_
      refine q_bipush hJ (v := 9) dL_inserts_9 (q := 11) rfl (by decide) ?_
      refine q_ishr hJ dL_inserts_11 (q := 12) rfl ?_
      refine q_callS hJ dL_inserts_12 (q := 15) rfl (S_value _ I R) imL_value ln_L_44 rfl rfl rfl (Nat.le_of_ble_eq_true rfl) (by decide) (by decide) rfl rfl (fun rv gv Iv Rv hv => ?_)
      obtain ⟨x2, hx2, rfl, rfl, rfl, rfl⟩ := hv
      refine q_istore hJ dL_inserts_15 (q := 17) rfl (by decide) ?_
      refine q_aload_n hJ dL_inserts_17 (q := 18) rfl rfl rfl ?_
      refine q_iload_n hJ dL_inserts_18 (q := 19) rfl rfl ?_
      refine q_iconst hJ (v := 0) dL_inserts_19 (q := 20) rfl (by decide) ?_
      refine q_callV hJ dL_inserts_20 (q := 23) rfl ((O_field (nI kq) 0 hO).val (fld_no hf 0)) imX10_field ln_L_23 ka_x (by decide) rfl rfl rfl rfl (Nat.le_of_ble_eq_true rfl) (by decide) (by decide) rfl rfl (fun rv gv Iv Rv hv => ?_)
      obtain ⟨rfl, rfl, rfl, rfl⟩ := hv
      refine q_sipush hJ (v := (-1001)) dL_inserts_23 (q := 26) rfl (by decide) ?_
      refine q_icmp_eq hJ (tgt := 33) dL_inserts_26 (q := 29) rfl (by decide) (fun _ => ?_) (fun c1 => absurd rfl c1)
      refine q_iconst hJ (v := 0) dL_inserts_33 (q := 34) rfl (by decide) ?_
      refine q_istore hJ dL_inserts_34 (q := 36) rfl (by decide) ?_
      refine q_iload hJ dL_inserts_36 (q := 38) rfl rfl ?_
      refine q_if_eq hJ (tgt := 47) dL_inserts_38 (q := 41) rfl (by decide) (fun _ => ?_) (fun c2 => absurd rfl c2)
      refine q_aload_n hJ dL_inserts_47 (q := 48) rfl rfl rfl ?_
      refine q_iconst hJ (v := 0) dL_inserts_48 (q := 49) rfl (by decide) ?_
      refine q_callV hJ dL_inserts_49 (q := 52) rfl ((O_total 0 (by decide) (by decide) hO).val (w := 20) (show nI (aN A) = 20 by rw [hn20]; rfl)) imX10_total ln_L_14 ka_x (by decide) rfl rfl rfl rfl (Nat.le_of_ble_eq_true rfl) (by decide) (by decide) rfl rfl (fun rv gv Iv Rv hv => ?_)
      obtain ⟨rfl, rfl, rfl, rfl⟩ := hv
      refine q_bipush hJ (v := 20) dL_inserts_52 (q := 54) rfl (by decide) ?_
      refine q_icmp_ne hJ (tgt := 63) dL_inserts_54 (q := 57) rfl (by decide) (fun c3 => absurd rfl c3) (fun _ => ?_)
      refine q_sipush hJ (v := (-1003)) dL_inserts_57 (q := 60) rfl (by decide) ?_
      refine q_goto hJ (tgt := 64) dL_inserts_60 (by decide) ?_
      refine q_istore hJ dL_inserts_64 (q := 66) rfl (by decide) ?_
      refine q_iload hJ dL_inserts_66 (q := 68) rfl rfl ?_
      refine q_if_ge hJ (tgt := 109) dL_inserts_68 (q := 71) rfl (by decide) (fun c4 => absurd c4 (by decide)) (fun _ => ?_)
      have h0 := (show insF A (nI kq) 1 x1 x2 = -1003 from by rw [ins_F hkq hx1 hx2]; rw [hf, if_neg (by decide), if_neg (by omega)])
      have h0n : ¬ insF A (nI kq) 1 x1 x2 = 0 := by rw [h0]; decide
      refine q_aload_n hJ dL_inserts_71 (q := 72) rfl rfl rfl ?_
      refine q_iload_n hJ dL_inserts_72 (q := 73) rfl rfl ?_
      refine q_iconst hJ (v := 1) dL_inserts_73 (q := 74) rfl (by decide) ?_
      refine q_iload hJ dL_inserts_74 (q := 76) rfl rfl ?_
      refine q_iload hJ dL_inserts_76 (q := 78) rfl rfl ?_
      refine q_callV hJ dL_inserts_78 (q := 81) rfl ((O_insert (nI kq) 1 x1 x2 hO).valO ((stR_n h0n).trans h0) (if_neg h0n)) imX10_insert ln_L_47 ka_x (by decide) rfl rfl rfl rfl (Nat.le_of_ble_eq_true rfl) (by decide) (by decide) rfl rfl (fun rv gv Iv Rv hv => ?_)
      obtain ⟨rfl, rfl, hO1, hT1⟩ := hv
      refine q_iload hJ dL_inserts_81 (q := 83) rfl rfl ?_
      refine q_icmp_ne hJ (tgt := 107) dL_inserts_83 (q := 86) rfl (by decide) (fun c5 => absurd rfl c5) (fun _ => ?_)
      refine q_aload_n hJ dL_inserts_86 (q := 87) rfl rfl rfl ?_
      refine q_iload_n hJ dL_inserts_87 (q := 88) rfl rfl ?_
      refine q_iconst hJ (v := 1) dL_inserts_88 (q := 89) rfl (by decide) ?_
      refine q_iload hJ dL_inserts_89 (q := 91) rfl rfl ?_
      refine q_iload hJ dL_inserts_91 (q := 93) rfl rfl ?_
      refine q_bipush hJ (v := 9) dL_inserts_93 (q := 95) rfl (by decide) ?_
      refine q_callV hJ dL_inserts_95 (q := 98) rfl ((O_ifIns (nI kq) 1 x1 x2 9 hO1).valO ((ifV_n h0n).trans h0) rfl) imX10_ifInserted ln_L_51 ka_x (by decide) rfl rfl rfl rfl (Nat.le_of_ble_eq_true rfl) (by decide) (by decide) rfl rfl (fun rv gv Iv Rv hv => ?_)
      obtain ⟨rfl, rfl, hO2, hT2⟩ := hv
      refine q_iload hJ dL_inserts_98 (q := 100) rfl rfl ?_
      refine q_icmp_ne hJ (tgt := 107) dL_inserts_100 (q := 103) rfl (by decide) (fun c6 => absurd rfl c6) (fun _ => ?_)
      refine q_iconst hJ (v := 1) dL_inserts_103 (q := 104) rfl (by decide) ?_
      refine q_goto hJ (tgt := 108) dL_inserts_104 (by decide) ?_
      refine q_iret hM dL_inserts_108 rfl (by decide) ?_
      exact ⟨rfl, rfl, _, hO2, hA⟩
    · have hlt : aN A < 20 := by omega
      refine q_iload_n hJ dL_inserts_0 (q := 1) rfl rfl ?_
      refine q_iconst hJ (v := 4) dL_inserts_1 (q := 2) rfl (by decide) ?_
      refine q_ishr hJ dL_inserts_2 (q := 3) rfl ?_
      refine q_callS hJ dL_inserts_3 (q := 6) rfl (S_value _ I R) imL_value ln_L_44 rfl rfl rfl (Nat.le_of_ble_eq_true rfl) (by decide) (by decide) rfl rfl (fun rv gv Iv Rv hv => ?_)
      obtain ⟨x1, hx1, rfl, rfl, rfl, rfl⟩ := hv
      refine q_istore hJ dL_inserts_6 (q := 8) rfl (by decide) ?_
      refine q_iload_n hJ dL_inserts_8 (q := 9) rfl rfl ?_
      refine q_bipush hJ (v := 9) dL_inserts_9 (q := 11) rfl (by decide) ?_
      refine q_ishr hJ dL_inserts_11 (q := 12) rfl ?_
      refine q_callS hJ dL_inserts_12 (q := 15) rfl (S_value _ I R) imL_value ln_L_44 rfl rfl rfl (Nat.le_of_ble_eq_true rfl) (by decide) (by decide) rfl rfl (fun rv gv Iv Rv hv => ?_)
      obtain ⟨x2, hx2, rfl, rfl, rfl, rfl⟩ := hv
      refine q_istore hJ dL_inserts_15 (q := 17) rfl (by decide) ?_
      refine q_aload_n hJ dL_inserts_17 (q := 18) rfl rfl rfl ?_
      refine q_iload_n hJ dL_inserts_18 (q := 19) rfl rfl ?_
      refine q_iconst hJ (v := 0) dL_inserts_19 (q := 20) rfl (by decide) ?_
      refine q_callV hJ dL_inserts_20 (q := 23) rfl ((O_field (nI kq) 0 hO).val (fld_no hf 0)) imX10_field ln_L_23 ka_x (by decide) rfl rfl rfl rfl (Nat.le_of_ble_eq_true rfl) (by decide) (by decide) rfl rfl (fun rv gv Iv Rv hv => ?_)
      obtain ⟨rfl, rfl, rfl, rfl⟩ := hv
      refine q_sipush hJ (v := (-1001)) dL_inserts_23 (q := 26) rfl (by decide) ?_
      refine q_icmp_eq hJ (tgt := 33) dL_inserts_26 (q := 29) rfl (by decide) (fun _ => ?_) (fun c1 => absurd rfl c1)
      refine q_iconst hJ (v := 0) dL_inserts_33 (q := 34) rfl (by decide) ?_
      refine q_istore hJ dL_inserts_34 (q := 36) rfl (by decide) ?_
      refine q_iload hJ dL_inserts_36 (q := 38) rfl rfl ?_
      refine q_if_eq hJ (tgt := 47) dL_inserts_38 (q := 41) rfl (by decide) (fun _ => ?_) (fun c2 => absurd rfl c2)
      refine q_aload_n hJ dL_inserts_47 (q := 48) rfl rfl rfl ?_
      refine q_iconst hJ (v := 0) dL_inserts_48 (q := 49) rfl (by decide) ?_
      refine q_callV hJ dL_inserts_49 (q := 52) rfl ((O_total 0 (by decide) (by decide) hO).val (w := nI (aN A)) rfl) imX10_total ln_L_14 ka_x (by decide) rfl rfl rfl rfl (Nat.le_of_ble_eq_true rfl) (by decide) (by decide) rfl rfl (fun rv gv Iv Rv hv => ?_)
      obtain ⟨rfl, rfl, rfl, rfl⟩ := hv
      refine q_bipush hJ (v := 20) dL_inserts_52 (q := 54) rfl (by decide) ?_
      refine q_icmp_ne hJ (tgt := 63) dL_inserts_54 (q := 57) rfl (by decide) (fun _ => ?_) (fun c3 => absurd c3 (fun z => absurd ((nI_eq (a := aN A) (b := 20) (by omega) (by decide)).mp z) (by omega)))
      refine q_iconst hJ (v := 0) dL_inserts_63 (q := 64) rfl (by decide) ?_
      refine q_istore hJ dL_inserts_64 (q := 66) rfl (by decide) ?_
      refine q_iload hJ dL_inserts_66 (q := 68) rfl rfl ?_
      refine q_if_ge hJ (tgt := 109) dL_inserts_68 (q := 71) rfl (by decide) (fun _ => ?_) (fun c4 => absurd (by decide : (0 : Int32) ≤ 0) c4)
      refine q_iconst hJ (v := 0) dL_inserts_109 (q := 110) rfl (by decide) ?_
      refine q_istore hJ dL_inserts_110 (q := 112) rfl (by decide) ?_
      have h0 : insF A (nI kq) 1 x1 x2 = 0 := by rw [ins_F hkq hx1 hx2, hf, if_neg (by decide), if_pos hlt]
      have hrun := in_run hA hG h1 h8 hf hlt hkq one_VI hx1 hx2
      have hOb : xO (XR 0 (insI (nI kq) 1 x1 x2) A) ≤ 100 := hrun.choose_spec.2.2.2.2.1
      have loop : ∀ (m q : Nat) (I' : MI) (R' : MR), m + q = 5 → Ob I' R' A → (∀ kk, kk < q → I' 317 kk = telX (XR 0 (insI (nI kq) 1 x1 x2) A) (nI kk)) → J 0 0 112 [some (.ref 0), some (.ref 317), some (.int (v)), some (.int (nI kq)), some (.int (x1)), some (.int (x2)), some (.int (0)), some (.int (0)), some (.int (nI q)), none] [] g0 I' R' := by
        intro m
        induction m with
        | zero =>
          intro q I' R' hq hO' h3
          by_cases hz : xR (XR 0 (insI (nI kq) 1 x1 x2) A) = 0
          · refine q_iload hJ dL_inserts_112 (q := 114) rfl rfl ?_
            refine q_iconst hJ (v := 5) dL_inserts_114 (q := 115) rfl (by decide) ?_
            refine q_icmp_ge hJ (tgt := 140) dL_inserts_115 (q := 118) rfl (by decide) (fun _ => ?_) (fun c1 => absurd ((nI_leI (a := 5) (b := q) (by decide) (by omega)).mpr (by omega)) c1)
            refine q_aload_n hJ dL_inserts_140 (q := 141) rfl rfl rfl ?_
            refine q_aload_n hJ dL_inserts_141 (q := 142) rfl rfl rfl ?_
            refine q_callS hJ dL_inserts_142 (q := 145) rfl (S_totals A I' R' hO') imL_totals ln_L_55 rfl rfl rfl (Nat.le_of_ble_eq_true rfl) (by decide) (by decide) rfl rfl (fun rv gv Iv Rv hv => ?_)
            obtain ⟨rfl, rfl, rfl, hu1, hu2, hu3⟩ := hv
            have hO2 := hO'.lo (fun a ha => hu1 a (by omega))
            have hT5 := T5.of (fun k hk => h3 k (by omega)) hu2
            have hT4 := T4.of hu3
            refine q_aload_n hJ dL_inserts_145 (q := 146) rfl rfl rfl ?_
            refine q_iconst hJ (v := 0) dL_inserts_146 (q := 147) rfl (by decide) ?_
            refine q_callV hJ dL_inserts_147 (q := 150) rfl ((O_total 0 (by decide) (by decide) hO2).val (w := nI (aN A)) rfl) imX10_total ln_L_14 ka_x (by decide) rfl rfl rfl rfl (Nat.le_of_ble_eq_true rfl) (by decide) (by decide) rfl rfl (fun rv gv Iv Rv hv => ?_)
            obtain ⟨rfl, rfl, rfl, rfl⟩ := hv
            refine q_istore hJ dL_inserts_150 (q := 152) rfl (by decide) ?_
            refine q_aload_n hJ dL_inserts_152 (q := 153) rfl rfl rfl ?_
            refine q_iload_n hJ dL_inserts_153 (q := 154) rfl rfl ?_
            refine q_iconst hJ (v := 1) dL_inserts_154 (q := 155) rfl (by decide) ?_
            refine q_iload hJ dL_inserts_155 (q := 157) rfl rfl ?_
            refine q_iload hJ dL_inserts_157 (q := 159) rfl rfl ?_
            refine q_callV hJ dL_inserts_159 (q := 162) rfl ((O_insert (nI kq) 1 x1 x2 hO2).valO (stR_0 h0) (if_pos h0)) imX10_insert ln_L_47 ka_x (by decide) rfl rfl rfl rfl (Nat.le_of_ble_eq_true rfl) (by decide) (by decide) rfl rfl (fun rv gv Iv Rv hv => ?_)
            obtain ⟨rfl, rfl, hO3, hT3⟩ := hv
            refine q_istore hJ dL_inserts_162 (q := 164) rfl (by decide) ?_
            refine q_aload_n hJ dL_inserts_164 (q := 165) rfl rfl rfl ?_
            refine q_aload_n hJ dL_inserts_165 (q := 166) rfl rfl rfl ?_
            refine q_iload hJ dL_inserts_166 (q := 168) rfl rfl ?_
            refine q_callS hJ dL_inserts_168 (q := 171) rfl (S_came A (XR 0 (insI (nI kq) 1 x1 x2) A) G _ _ hO3 hA hrun hG h8 (hT5.moved hT3) (hT4.moved hT3)) imL_came ln_L_59 rfl rfl rfl (Nat.le_of_ble_eq_true rfl) (by decide) (by decide) rfl rfl (fun rv gv Iv Rv hv => ?_)
            obtain ⟨rfl, rfl, rfl, rfl⟩ := hv
            refine q_if_eq hJ (tgt := 205) dL_inserts_171 (q := 174) rfl (by decide) (fun c2 => absurd c2 (by decide)) (fun _ => ?_)
            refine q_iload hJ dL_inserts_174 (q := 176) rfl rfl ?_
            rw [runR, if_pos hz]
            refine q_if_ge hJ (tgt := 201) dL_inserts_176 (q := 179) rfl (by decide) (fun _ => ?_) (fun c3 => absurd (nI_pos' (by omega)) c3)
            refine q_iconst hJ (v := 1) dL_inserts_201 (q := 202) rfl (by decide) ?_
            refine q_goto hJ (tgt := 206) dL_inserts_202 (by decide) ?_
            refine q_iret hM dL_inserts_206 rfl (by decide) ?_
            exact ⟨rfl, rfl, _, hO3, (hA.res hrun)⟩
          · refine q_iload hJ dL_inserts_112 (q := 114) rfl rfl ?_
            refine q_iconst hJ (v := 5) dL_inserts_114 (q := 115) rfl (by decide) ?_
            refine q_icmp_ge hJ (tgt := 140) dL_inserts_115 (q := 118) rfl (by decide) (fun _ => ?_) (fun c1 => absurd ((nI_leI (a := 5) (b := q) (by decide) (by omega)).mpr (by omega)) c1)
            refine q_aload_n hJ dL_inserts_140 (q := 141) rfl rfl rfl ?_
            refine q_aload_n hJ dL_inserts_141 (q := 142) rfl rfl rfl ?_
            refine q_callS hJ dL_inserts_142 (q := 145) rfl (S_totals A I' R' hO') imL_totals ln_L_55 rfl rfl rfl (Nat.le_of_ble_eq_true rfl) (by decide) (by decide) rfl rfl (fun rv gv Iv Rv hv => ?_)
            obtain ⟨rfl, rfl, rfl, hu1, hu2, hu3⟩ := hv
            have hO2 := hO'.lo (fun a ha => hu1 a (by omega))
            have hT5 := T5.of (fun k hk => h3 k (by omega)) hu2
            have hT4 := T4.of hu3
            refine q_aload_n hJ dL_inserts_145 (q := 146) rfl rfl rfl ?_
            refine q_iconst hJ (v := 0) dL_inserts_146 (q := 147) rfl (by decide) ?_
            refine q_callV hJ dL_inserts_147 (q := 150) rfl ((O_total 0 (by decide) (by decide) hO2).val (w := nI (aN A)) rfl) imX10_total ln_L_14 ka_x (by decide) rfl rfl rfl rfl (Nat.le_of_ble_eq_true rfl) (by decide) (by decide) rfl rfl (fun rv gv Iv Rv hv => ?_)
            obtain ⟨rfl, rfl, rfl, rfl⟩ := hv
            refine q_istore hJ dL_inserts_150 (q := 152) rfl (by decide) ?_
            refine q_aload_n hJ dL_inserts_152 (q := 153) rfl rfl rfl ?_
            refine q_iload_n hJ dL_inserts_153 (q := 154) rfl rfl ?_
            refine q_iconst hJ (v := 1) dL_inserts_154 (q := 155) rfl (by decide) ?_
            refine q_iload hJ dL_inserts_155 (q := 157) rfl rfl ?_
            refine q_iload hJ dL_inserts_157 (q := 159) rfl rfl ?_
            refine q_callV hJ dL_inserts_159 (q := 162) rfl ((O_insert (nI kq) 1 x1 x2 hO2).valO (stR_0 h0) (if_pos h0)) imX10_insert ln_L_47 ka_x (by decide) rfl rfl rfl rfl (Nat.le_of_ble_eq_true rfl) (by decide) (by decide) rfl rfl (fun rv gv Iv Rv hv => ?_)
            obtain ⟨rfl, rfl, hO3, hT3⟩ := hv
            refine q_istore hJ dL_inserts_162 (q := 164) rfl (by decide) ?_
            refine q_aload_n hJ dL_inserts_164 (q := 165) rfl rfl rfl ?_
            refine q_aload_n hJ dL_inserts_165 (q := 166) rfl rfl rfl ?_
            refine q_iload hJ dL_inserts_166 (q := 168) rfl rfl ?_
            refine q_callS hJ dL_inserts_168 (q := 171) rfl (S_came A (XR 0 (insI (nI kq) 1 x1 x2) A) G _ _ hO3 hA hrun hG h8 (hT5.moved hT3) (hT4.moved hT3)) imL_came ln_L_59 rfl rfl rfl (Nat.le_of_ble_eq_true rfl) (by decide) (by decide) rfl rfl (fun rv gv Iv Rv hv => ?_)
            obtain ⟨rfl, rfl, rfl, rfl⟩ := hv
            refine q_if_eq hJ (tgt := 205) dL_inserts_171 (q := 174) rfl (by decide) (fun c2 => absurd c2 (by decide)) (fun _ => ?_)
            refine q_iload hJ dL_inserts_174 (q := 176) rfl rfl ?_
            rw [runR, if_neg hz]
            refine q_if_ge hJ (tgt := 201) dL_inserts_176 (q := 179) rfl (by decide) (fun c3 => absurd c3 (by decide)) (fun _ => ?_)
            rw [resA, if_neg hz] at hO3
            refine q_aload_n hJ dL_inserts_179 (q := 180) rfl rfl rfl ?_
            refine q_iconst hJ (v := 0) dL_inserts_180 (q := 181) rfl (by decide) ?_
            refine q_callV hJ dL_inserts_181 (q := 184) rfl ((O_total 0 (by decide) (by decide) hO3).val (w := nI (aN A)) rfl) imX10_total ln_L_14 ka_x (by decide) rfl rfl rfl rfl (Nat.le_of_ble_eq_true rfl) (by decide) (by decide) rfl rfl (fun rv gv Iv Rv hv => ?_)
            obtain ⟨rfl, rfl, rfl, rfl⟩ := hv
            refine q_iload hJ dL_inserts_184 (q := 186) rfl rfl ?_
            refine q_icmp_ne hJ (tgt := 205) dL_inserts_186 (q := 189) rfl (by decide) (fun c4 => absurd rfl c4) (fun _ => ?_)
            refine q_aload_n hJ dL_inserts_189 (q := 190) rfl rfl rfl ?_
            refine q_iload_n hJ dL_inserts_190 (q := 191) rfl rfl ?_
            refine q_iconst hJ (v := 0) dL_inserts_191 (q := 192) rfl (by decide) ?_
            refine q_callV hJ dL_inserts_192 (q := 195) rfl ((O_field (nI kq) 0 hO3).val (fld_no hf 0)) imX10_field ln_L_23 ka_x (by decide) rfl rfl rfl rfl (Nat.le_of_ble_eq_true rfl) (by decide) (by decide) rfl rfl (fun rv gv Iv Rv hv => ?_)
            obtain ⟨rfl, rfl, rfl, rfl⟩ := hv
            refine q_sipush hJ (v := (-1001)) dL_inserts_195 (q := 198) rfl (by decide) ?_
            refine q_icmp_ne hJ (tgt := 205) dL_inserts_198 (q := 201) rfl (by decide) (fun c5 => absurd rfl c5) (fun _ => ?_)
            refine q_iconst hJ (v := 1) dL_inserts_201 (q := 202) rfl (by decide) ?_
            refine q_goto hJ (tgt := 206) dL_inserts_202 (by decide) ?_
            refine q_iret hM dL_inserts_206 rfl (by decide) ?_
            exact ⟨rfl, rfl, _, hO3, hA⟩
        | succ m ih =>
          intro q I' R' hq hO' h3
          refine q_iload hJ dL_inserts_112 (q := 114) rfl rfl ?_
          refine q_iconst hJ (v := 5) dL_inserts_114 (q := 115) rfl (by decide) ?_
          refine q_icmp_ge hJ (tgt := 140) dL_inserts_115 (q := 118) rfl (by decide) (fun c1 => absurd c1 (nle (a := q) (b := 5) (by omega) (by decide))) (fun _ => ?_)
          refine q_aload_n hJ dL_inserts_118 (q := 119) rfl rfl rfl ?_
          refine q_iload hJ dL_inserts_119 (q := 121) rfl rfl ?_
          refine q_aload_n hJ dL_inserts_121 (q := 122) rfl rfl rfl ?_
          refine q_iload_n hJ dL_inserts_122 (q := 123) rfl rfl ?_
          refine q_iconst hJ (v := 1) dL_inserts_123 (q := 124) rfl (by decide) ?_
          refine q_iload hJ dL_inserts_124 (q := 126) rfl rfl ?_
          refine q_iload hJ dL_inserts_126 (q := 128) rfl rfl ?_
          refine q_iload hJ dL_inserts_128 (q := 130) rfl rfl ?_
          refine q_callV hJ dL_inserts_130 (q := 133) rfl ((O_ifIns (nI kq) 1 x1 x2 (nI q) hO').valO (ifV_0 h0 (by omega)) rfl) imX10_ifInserted ln_L_51 ka_x (by decide) rfl rfl rfl rfl (Nat.le_of_ble_eq_true rfl) (by decide) (by decide) rfl rfl (fun rv gv Iv Rv hv => ?_)
          obtain ⟨rfl, rfl, hO1, hT1⟩ := hv
          refine q_iast hJ dL_inserts_133 (q := 134) rfl ka_t (ix_t (by omega)) ?_
          refine q_iinc hJ dL_inserts_134 (q := 137) rfl (by decide) rfl (nI_1 q) ?_
          refine q_goto hJ (tgt := 112) dL_inserts_137 (by decide) ?_
          exact ih (q + 1) _ _ (by omega) (hO1.t _ _) (tel_put h3 hT1 rfl)
      exact loop 5 0 _ _ rfl hO (fun k hk => absurd hk (Nat.not_lt_zero _))
  · have hne : ¬ fieldF A (nI kq) 0 = -1001 := by
      have h := fld_at (f := 0) hf (by decide)
      exact VI.ne (by rw [show fieldF A (nI kq) 0 = _ from h]; exact row_VI (f := 0) (hA.2.1.row (fnd_row hf).1) (by decide))
    refine q_iload_n hJ dL_inserts_0 (q := 1) rfl rfl ?_
    refine q_iconst hJ (v := 4) dL_inserts_1 (q := 2) rfl (by decide) ?_
    refine q_ishr hJ dL_inserts_2 (q := 3) rfl ?_
    refine q_callS hJ dL_inserts_3 (q := 6) rfl (S_value _ I R) imL_value ln_L_44 rfl rfl rfl (Nat.le_of_ble_eq_true rfl) (by decide) (by decide) rfl rfl (fun rv gv Iv Rv hv => ?_)
    obtain ⟨x1, hx1, rfl, rfl, rfl, rfl⟩ := hv
    refine q_istore hJ dL_inserts_6 (q := 8) rfl (by decide) ?_
    refine q_iload_n hJ dL_inserts_8 (q := 9) rfl rfl ?_
    refine q_bipush hJ (v := 9) dL_inserts_9 (q := 11) rfl (by decide) ?_
    refine q_ishr hJ dL_inserts_11 (q := 12) rfl ?_
    refine q_callS hJ dL_inserts_12 (q := 15) rfl (S_value _ I R) imL_value ln_L_44 rfl rfl rfl (Nat.le_of_ble_eq_true rfl) (by decide) (by decide) rfl rfl (fun rv gv Iv Rv hv => ?_)
    obtain ⟨x2, hx2, rfl, rfl, rfl, rfl⟩ := hv
    refine q_istore hJ dL_inserts_15 (q := 17) rfl (by decide) ?_
    refine q_aload_n hJ dL_inserts_17 (q := 18) rfl rfl rfl ?_
    refine q_iload_n hJ dL_inserts_18 (q := 19) rfl rfl ?_
    refine q_iconst hJ (v := 0) dL_inserts_19 (q := 20) rfl (by decide) ?_
    refine q_callV hJ dL_inserts_20 (q := 23) rfl (O_field (nI kq) 0 hO) imX10_field ln_L_23 ka_x (by decide) rfl rfl rfl rfl (Nat.le_of_ble_eq_true rfl) (by decide) (by decide) rfl rfl (fun rv gv Iv Rv hv => ?_)
    obtain ⟨rfl, rfl, rfl, rfl⟩ := hv
    refine q_sipush hJ (v := (-1001)) dL_inserts_23 (q := 26) rfl (by decide) ?_
    refine q_icmp_eq hJ (tgt := 33) dL_inserts_26 (q := 29) rfl (by decide) (fun c1 => absurd c1 hne) (fun _ => ?_)
    refine q_iconst hJ (v := 1) dL_inserts_29 (q := 30) rfl (by decide) ?_
    refine q_goto hJ (tgt := 34) dL_inserts_30 (by decide) ?_
    refine q_istore hJ dL_inserts_34 (q := 36) rfl (by decide) ?_
    refine q_iload hJ dL_inserts_36 (q := 38) rfl rfl ?_
    refine q_if_eq hJ (tgt := 47) dL_inserts_38 (q := 41) rfl (by decide) (fun c2 => absurd c2 (by decide)) (fun _ => ?_)
    refine q_sipush hJ (v := (-1004)) dL_inserts_41 (q := 44) rfl (by decide) ?_
    refine q_goto hJ (tgt := 64) dL_inserts_44 (by decide) ?_
    refine q_istore hJ dL_inserts_64 (q := 66) rfl (by decide) ?_
    refine q_iload hJ dL_inserts_66 (q := 68) rfl rfl ?_
    refine q_if_ge hJ (tgt := 109) dL_inserts_68 (q := 71) rfl (by decide) (fun c4 => absurd c4 (by decide)) (fun _ => ?_)
    have h0 := (show insF A (nI kq) 1 x1 x2 = -1004 from by rw [ins_F hkq hx1 hx2]; rw [hf]; rfl)
    have h0n : ¬ insF A (nI kq) 1 x1 x2 = 0 := by rw [h0]; decide
    refine q_aload_n hJ dL_inserts_71 (q := 72) rfl rfl rfl ?_
    refine q_iload_n hJ dL_inserts_72 (q := 73) rfl rfl ?_
    refine q_iconst hJ (v := 1) dL_inserts_73 (q := 74) rfl (by decide) ?_
    refine q_iload hJ dL_inserts_74 (q := 76) rfl rfl ?_
    refine q_iload hJ dL_inserts_76 (q := 78) rfl rfl ?_
    refine q_callV hJ dL_inserts_78 (q := 81) rfl ((O_insert (nI kq) 1 x1 x2 hO).valO ((stR_n h0n).trans h0) (if_neg h0n)) imX10_insert ln_L_47 ka_x (by decide) rfl rfl rfl rfl (Nat.le_of_ble_eq_true rfl) (by decide) (by decide) rfl rfl (fun rv gv Iv Rv hv => ?_)
    obtain ⟨rfl, rfl, hO1, hT1⟩ := hv
    refine q_iload hJ dL_inserts_81 (q := 83) rfl rfl ?_
    refine q_icmp_ne hJ (tgt := 107) dL_inserts_83 (q := 86) rfl (by decide) (fun c5 => absurd rfl c5) (fun _ => ?_)
    refine q_aload_n hJ dL_inserts_86 (q := 87) rfl rfl rfl ?_
    refine q_iload_n hJ dL_inserts_87 (q := 88) rfl rfl ?_
    refine q_iconst hJ (v := 1) dL_inserts_88 (q := 89) rfl (by decide) ?_
    refine q_iload hJ dL_inserts_89 (q := 91) rfl rfl ?_
    refine q_iload hJ dL_inserts_91 (q := 93) rfl rfl ?_
    refine q_bipush hJ (v := 9) dL_inserts_93 (q := 95) rfl (by decide) ?_
    refine q_callV hJ dL_inserts_95 (q := 98) rfl ((O_ifIns (nI kq) 1 x1 x2 9 hO1).valO ((ifV_n h0n).trans h0) rfl) imX10_ifInserted ln_L_51 ka_x (by decide) rfl rfl rfl rfl (Nat.le_of_ble_eq_true rfl) (by decide) (by decide) rfl rfl (fun rv gv Iv Rv hv => ?_)
    obtain ⟨rfl, rfl, hO2, hT2⟩ := hv
    refine q_iload hJ dL_inserts_98 (q := 100) rfl rfl ?_
    refine q_icmp_ne hJ (tgt := 107) dL_inserts_100 (q := 103) rfl (by decide) (fun c6 => absurd rfl c6) (fun _ => ?_)
    refine q_iconst hJ (v := 1) dL_inserts_103 (q := 104) rfl (by decide) ?_
    refine q_goto hJ (tgt := 108) dL_inserts_104 (by decide) ?_
    refine q_iret hM dL_inserts_108 rfl (by decide) ?_
    exact ⟨rfl, rfl, _, hO2, hA⟩

