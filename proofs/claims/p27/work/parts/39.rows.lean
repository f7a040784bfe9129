/-! THE LAW'S METHODS: numbers, totals, the rows -/
theorem Sp.val {Y : MT} {d mc ms : Nat} {as : List Value} {g g2 : Geo} {I I2 : MI} {R R2 : MR} {v w : Int32} (h : Sp d mc ms Y as g I R (Rt (some (.int v)) g2 I2 R2)) (e : v = w) : Sp d mc ms Y as g I R (Rt (some (.int w)) g2 I2 R2) := e ▸ h
theorem Sp.valO {Y : MT} {d mc ms : Nat} {as : List Value} {g : Geo} {I I2 : MI} {R : MR} {A A2 : AS} {v w : Int32} (h : Sp d mc ms Y as g I R (ObP v I2 A)) (e : v = w) (e2 : A = A2) : Sp d mc ms Y as g I R (ObP w I2 A2) := e ▸ e2 ▸ h
theorem Sp.valQ {Y : MT} {d mc ms : Nat} {as : List Value} {g : Geo} {I I2 : MI} {R : MR} {ok : Prop} {A A2 : AS} {v w : Int32} (h : Sp d mc ms Y as g I R (ObQ v I2 ok A2 A)) (e : v = w) : Sp d mc ms Y as g I R (ObQ w I2 ok A2 A) := e ▸ h
def LowP (n : Nat) (I : MI) (R : MR) : Po := fun r g' I' R' => ∃ j, j < n ∧ r = some (.int (nI j)) ∧ g0 = g' ∧ I = I' ∧ R = R'
def ValP (I : MI) (R : MR) : Po := fun r g' I' R' => ∃ x, VI x ∧ r = some (.int x) ∧ g0 = g' ∧ I = I' ∧ R = R'
theorem sub_VI {a b : Nat} (h : a ≤ b + 999) (hb : b ≤ 999) : VI (nI a - nI b) :=
  ⟨fun z => by
    have k := Int32.lt_iff_toInt_lt.mp z
    rw [pk_sub_toInt (by omega) (by omega), show (-999 : Int32).toInt = -999 from rfl] at k
    omega, fun z => by
    have k := Int32.lt_iff_toInt_lt.mp z
    rw [pk_sub_toInt (by omega) (by omega), show (999 : Int32).toInt = 999 from rfl] at k
    omega⟩
theorem nle {a b : Nat} (h : a < b) (hb : b < 2 ^ 31) : ¬ nI b ≤ nI a := nI_ge h hb
theorem key_in {A : AS} {q : Nat} (h : q < aN A) (hn : aN A ≤ 20) : keyF A (nI q) = aK A q 0 := by
  have h1 : ¬ nI q < 0 := nI_pos (by omega)
  have h2 : ¬ nI (aN A) ≤ nI q := nI_ge h (by omega)
  rw [keyF, if_neg h1, if_neg h2, nI_clamp (by omega)]
theorem key_n {A : AS} (hn : aN A ≤ 20) : keyF A (nI (aN A)) = -1006 := by
  have h1 : ¬ nI (aN A) < 0 := nI_pos (by omega)
  rw [keyF, if_neg h1, if_pos (Int32.le_refl _)]
theorem key_m (A : AS) : keyF A (-1) = -1002 := if_pos (by decide)
theorem fnd_key {A : AS} {q : Nat} (h : q < aN A) : ∃ i, i < aN A ∧ fK A (aK A q 0) = some i := by
  rcases hf : fK A (aK A q 0) with _ | i
  · exact absurd rfl (fndF_none hf q (Nat.zero_le _) (by omega))
  · obtain ⟨_, h2, _, _⟩ := fndF_some hf
    exact ⟨i, by omega, rfl⟩
theorem row_VI {img : Nat → Int32} (h : ImG img) {f : Nat} (hf : f < 3) : VI (rowF img (nI f)) := by
  rcases (show f = 0 ∨ f = 1 ∨ f = 2 by omega) with rfl | rfl | rfl
  · exact h.2.1
  · exact h.2.2.1
  · exact h.2.2.2
theorem fld_at {A : AS} {k : Int32} {i f : Nat} (h : fK A k = some i) (hf : f < 3) : fieldF A k (nI f) = rowF (aK A i) (nI f) := by
  have e : ¬ inR (nI f) 0 2 = 0 := by
    rcases (show f = 0 ∨ f = 1 ∨ f = 2 by omega) with rfl | rfl | rfl <;> decide
  rw [fieldF, h]
  exact if_neg e
theorem fld_VI {A : AS} {q f : Nat} (hT : TbG (aK A) (aN A)) (h : q < aN A) (hf : f < 3) : VI (fieldF A (aK A q 0) (nI f)) := by
  obtain ⟨i, hi, e⟩ := fnd_key h
  rw [fld_at e hf]
  exact row_VI (hT.row hi) hf
theorem fld_3 {A : AS} {q : Nat} (h : q < aN A) : fieldF A (aK A q 0) 3 = -1002 := by
  obtain ⟨i, hi, e⟩ := fnd_key h
  rw [fieldF, e]
  exact if_pos (by decide)
def lst (A : AS) (q : Nat) : Int32 := if q = 0 then -1 else aK A (q - 1) 0
theorem lst_lt {A : AS} {q : Nat} (hT : TbG (aK A) (aN A)) (h : q < aN A) : ¬ aK A q 0 ≤ lst A q := by
  refine Int32.not_le.mpr ?_
  unfold lst
  by_cases e : q = 0
  · rw [if_pos e]
    obtain ⟨t, ht, e2⟩ := hT.2.1.1 q h
    rw [e2]
    refine Int32.lt_iff_toInt_lt.mpr ?_
    rw [nI_toInt (by omega), show (-1 : Int32).toInt = -1 from rfl]
    omega
  · rw [if_neg e]
    exact hT.2.1.2 (q - 1) q (by omega) h
theorem key_99 {A : AS} {q : Nat} (hT : TbG (aK A) (aN A)) (h : q < aN A) : ¬ 99 < aK A q 0 := by
  obtain ⟨t, ht, e2⟩ := hT.2.1.1 q h
  rw [e2]
  exact nI_nlt (a := 99) (b := t) (by omega) (by decide)
set_option maxRecDepth 100000 in
set_option maxHeartbeats 400000 in
theorem S_low (v : Int32) (n : Nat) (hn : 0 < n ∧ n < 2 ^ 31) (I : MI) (R : MR) : Sp 0 0 0 mL_low [.int v, .int (nI n)] g0 I R (LowP n I R) := by
  refine Sp.on (by decide +kernel) rfl rfl (fun J hM => ?_)
  have hJ := hM.ok
  refine q_iload_n hJ dL_low_0 (q := 1) rfl rfl ?_
  refine q_ldc hJ dL_low_1 (q := 3) rfl cw_7 ?_
  refine q_iand hJ dL_low_3 (q := 4) rfl ?_
  refine q_iload_n hJ dL_low_4 (q := 5) rfl rfl ?_
  refine q_irem hJ dL_low_5 (q := 6) rfl (nI_ne0 hn.1 hn.2) ?_
  refine q_iret hM dL_low_6 rfl rfl ?_
  obtain ⟨j, hj, e⟩ := pk_andE v (m := 2147483647) 31 (by decide)
  exact ⟨j % n, Nat.mod_lt _ hn.1, by rw [e, pk_rem (by omega) hn.1 hn.2], rfl, rfl, rfl⟩

set_option maxRecDepth 100000 in
set_option maxHeartbeats 400000 in
theorem S_value (v : Int32) (I : MI) (R : MR) : Sp 1 0 0 mL_value [.int v] g0 I R (ValP I R) := by
  refine Sp.on (by decide +kernel) rfl rfl (fun J hM => ?_)
  have hJ := hM.ok
  refine q_iload_n hJ dL_value_0 (q := 1) rfl rfl ?_
  refine q_bipush hJ (v := 7) dL_value_1 (q := 3) rfl (by decide) ?_
  refine q_callS hJ dL_value_3 (q := 6) rfl (S_low v 7 (by decide) I R) imL_low ln_L_8 rfl rfl rfl (Nat.le_of_ble_eq_true rfl) (by decide) (by decide) rfl rfl (fun rv gv Iv Rv hv => ?_)
  obtain ⟨j1, hj1, rfl, rfl, rfl, rfl⟩ := hv
  refine q_if_ne hJ (tgt := 25) dL_value_6 (q := 9) rfl (by decide) (fun c1 => ?_) (fun c1 => ?_)
  · refine q_iload_n hJ dL_value_25 (q := 26) rfl rfl ?_
    refine q_iconst hJ (v := 3) dL_value_26 (q := 27) rfl (by decide) ?_
    refine q_ishr hJ dL_value_27 (q := 28) rfl ?_
    refine q_bipush hJ (v := 24) dL_value_28 (q := 30) rfl (by decide) ?_
    refine q_callS hJ dL_value_30 (q := 33) rfl (S_low _ 24 (by decide) I R) imL_low ln_L_8 rfl rfl rfl (Nat.le_of_ble_eq_true rfl) (by decide) (by decide) rfl rfl (fun rv gv Iv Rv hv => ?_)
    obtain ⟨j3, hj3, rfl, rfl, rfl, rfl⟩ := hv
    refine q_iconst hJ (v := 4) dL_value_33 (q := 34) rfl (by decide) ?_
    refine q_isub hJ dL_value_34 (q := 35) rfl ?_
    refine q_iret hM dL_value_35 rfl rfl ?_
    exact ⟨_, sub_VI (a := j3) (b := 4) (by omega) (by decide), rfl, rfl, rfl, rfl⟩
  · refine q_iload_n hJ dL_value_9 (q := 10) rfl rfl ?_
    refine q_iconst hJ (v := 3) dL_value_10 (q := 11) rfl (by decide) ?_
    refine q_ishr hJ dL_value_11 (q := 12) rfl ?_
    refine q_sipush hJ (v := 1999) dL_value_12 (q := 15) rfl (by decide) ?_
    refine q_callS hJ dL_value_15 (q := 18) rfl (S_low _ 1999 (by decide) I R) imL_low ln_L_8 rfl rfl rfl (Nat.le_of_ble_eq_true rfl) (by decide) (by decide) rfl rfl (fun rv gv Iv Rv hv => ?_)
    obtain ⟨j2, hj2, rfl, rfl, rfl, rfl⟩ := hv
    refine q_sipush hJ (v := 999) dL_value_18 (q := 21) rfl (by decide) ?_
    refine q_isub hJ dL_value_21 (q := 22) rfl ?_
    refine q_goto hJ (tgt := 35) dL_value_22 (by decide) ?_
    refine q_iret hM dL_value_35 rfl rfl ?_
    exact ⟨_, sub_VI (a := j2) (b := 999) (by omega) (by decide), rfl, rfl, rfl, rfl⟩

theorem ka_t : KA g0 317 13 9 := ka0 (by decide)
theorem ix_t {j : Nat} (h : j < 9) : ix (nI j) j 9 := ix_nI h (by decide)
def TtP (A : AS) (I : MI) (R : MR) : Po := fun r g' I' R' => r = none ∧ g0 = g' ∧ R = R' ∧ (∀ a, a ≠ 317 → I' a = I a) ∧ (∀ k, k < 5 → I' 317 k = I 317 k) ∧ ∀ k, k < 4 → I' 317 (5 + k) = stTell A (nI (5 + k))
set_option maxRecDepth 100000 in
set_option maxHeartbeats 400000 in
theorem S_totals (A : AS) (I : MI) (R : MR) (hO : Ob I R A) : Sp 38 0 0 mL_totals [.ref 0, .ref 317] g0 I R (TtP A I R) := by
  refine Sp.on (by decide +kernel) rfl rfl (fun J hM => ?_)
  have hJ := hM.ok
  have loop : ∀ (m q : Nat) (I' : MI), m + q = 4 → (∀ a, a ≠ 317 → I' a = I a) → (∀ k, k < 5 → I' 317 k = I 317 k) → (∀ k, k < q → I' 317 (5 + k) = stTell A (nI (5 + k))) → J 0 0 2 [some (.ref 0), some (.ref 317), some (.int (nI q))] [] g0 I' R := by
    intro m
    induction m with
    | zero =>
      intro q I' hq h1 h2 h3
      refine q_iload_n hJ dL_totals_2 (q := 3) rfl rfl ?_
      refine q_iconst hJ (v := 4) dL_totals_3 (q := 4) rfl (by decide) ?_
      refine q_icmp_ge hJ (tgt := 25) dL_totals_4 (q := 7) rfl (by decide) (fun _ => ?_) (fun c1 => absurd ((nI_leI (a := 4) (b := q) (by decide) (by omega)).mpr (by omega)) c1)
      refine q_vret hM dL_totals_25 rfl ?_
      exact ⟨rfl, rfl, rfl, h1, h2, fun k hk => h3 k (by omega)⟩
    | succ m ih =>
      intro q I' hq h1 h2 h3
      refine q_iload_n hJ dL_totals_2 (q := 3) rfl rfl ?_
      refine q_iconst hJ (v := 4) dL_totals_3 (q := 4) rfl (by decide) ?_
      refine q_icmp_ge hJ (tgt := 25) dL_totals_4 (q := 7) rfl (by decide) (fun c1 => absurd c1 (nle (a := q) (b := 4) (by omega) (by decide))) (fun _ => ?_)
      refine q_aload_n hJ dL_totals_7 (q := 8) rfl rfl rfl ?_
      refine q_iconst hJ (v := 5) dL_totals_8 (q := 9) rfl (by decide) ?_
      refine q_iload_n hJ dL_totals_9 (q := 10) rfl rfl ?_
      refine q_iadd hJ dL_totals_10 (q := 11) rfl ?_
      rw [show (5 : Int32) + nI q = nI (5 + q) from nI_add 5 q]
      refine q_aload_n hJ dL_totals_11 (q := 12) rfl rfl rfl ?_
      refine q_iconst hJ (v := 5) dL_totals_12 (q := 13) rfl (by decide) ?_
      refine q_iload_n hJ dL_totals_13 (q := 14) rfl rfl ?_
      refine q_iadd hJ dL_totals_14 (q := 15) rfl ?_
      rw [show (5 : Int32) + nI q = nI (5 + q) from nI_add 5 q]
      refine q_callV hJ dL_totals_15 (q := 18) rfl (O_total (nI (5 + q)) (fun z => by have := (nI_eq (b := 10) (by omega) (by decide)).mp z; omega) (fun z => by have := (nI_eq (b := 11) (by omega) (by decide)).mp z; omega) (hO.lo (fun a ha => h1 a (by omega)))) imX10_total ln_L_14 ka_x (by decide) rfl rfl rfl rfl (Nat.le_of_ble_eq_true rfl) (by decide) (by decide) rfl rfl (fun rv gv Iv Rv hv => ?_)
      obtain ⟨rfl, rfl, rfl, rfl⟩ := hv
      refine q_iast hJ dL_totals_18 (q := 19) rfl ka_t (ix_t (by omega)) ?_
      refine q_iinc hJ dL_totals_19 (q := 22) rfl (by decide) rfl (nI_1 q) ?_
      refine q_goto hJ (tgt := 2) dL_totals_22 (by decide) ?_
      refine ih (q + 1) _ (by omega) (fun a ha => by rw [up2_other _ _ _ _ ha]; exact h1 a ha) (fun k hk => ?_) (fun k hk => ?_)
      · show (if 317 = 317 ∧ k = 5 + q then _ else I' 317 k) = _
        rw [if_neg (by omega)]; exact h2 k hk
      · show (if 317 = 317 ∧ 5 + k = 5 + q then _ else I' 317 (5 + k)) = _
        by_cases e : k = q
        · rw [if_pos ⟨rfl, by omega⟩, e]
        · rw [if_neg (by omega)]; exact h3 k (by omega)
  refine q_iconst hJ (v := 0) dL_totals_0 (q := 1) rfl (by decide) ?_
  refine q_istore_n hJ dL_totals_1 (q := 2) rfl (by decide) ?_
  exact loop 4 0 I rfl (fun _ _ => rfl) (fun _ _ => rfl) (fun k hk => absurd hk (Nat.not_lt_zero _))

set_option maxRecDepth 100000 in
set_option maxHeartbeats 400000 in
theorem S_areRows (A : AS) (I : MI) (R : MR) (hO : Ob I R A) (hA : Good A) : Sp 38 0 0 mL_areRows [.ref 0] g0 I R (Rt (some (.int 1)) g0 I R) := by
  refine Sp.on (by decide +kernel) rfl rfl (fun J hM => ?_)
  have hJ := hM.ok
  have hN := hA.2.1.1
  have loop : ∀ (m q : Nat) (l4 l5 : Option Value), m + q = aN A → J 0 0 10 [some (.ref 0), some (.int (nI (aN A))), some (.int (lst A q)), some (.int (nI q)), l4, l5] [] g0 I R := by
    intro m
    induction m with
    | zero =>
      intro q l4 l5 hq
      refine q_iload_n hJ dL_areRows_10 (q := 11) rfl rfl ?_
      refine q_iload_n hJ dL_areRows_11 (q := 12) rfl rfl ?_
      refine q_icmp_ge hJ (tgt := 110) dL_areRows_12 (q := 15) rfl (by decide) (fun _ => ?_) (fun c1 => absurd ((nI_leI (by omega) (by omega)).mpr (by omega)) c1)
      refine q_iload_n hJ dL_areRows_110 (q := 111) rfl rfl ?_
      refine q_if_lt hJ (tgt := 146) dL_areRows_111 (q := 114) rfl (by decide) (fun c2 => absurd c2 (nI_pos (by omega))) (fun _ => ?_)
      refine q_iload_n hJ dL_areRows_114 (q := 115) rfl rfl ?_
      refine q_bipush hJ (v := 20) dL_areRows_115 (q := 117) rfl (by decide) ?_
      refine q_icmp_gt hJ (tgt := 146) dL_areRows_117 (q := 120) rfl (by decide) (fun c3 => absurd c3 (nI_nlt (a := 20) (b := aN A) hN (by decide))) (fun _ => ?_)
      refine q_aload_n hJ dL_areRows_120 (q := 121) rfl rfl rfl ?_
      refine q_iload_n hJ dL_areRows_121 (q := 122) rfl rfl ?_
      refine q_callV hJ dL_areRows_122 (q := 125) rfl ((O_keyAt (nI (aN A)) hO).val (key_n hN)) imX10_keyAt ln_L_20 ka_x (by decide) rfl rfl rfl rfl (Nat.le_of_ble_eq_true rfl) (by decide) (by decide) rfl rfl (fun rv gv Iv Rv hv => ?_)
      obtain ⟨rfl, rfl, rfl, rfl⟩ := hv
      refine q_sipush hJ (v := (-1006)) dL_areRows_125 (q := 128) rfl (by decide) ?_
      refine q_icmp_ne hJ (tgt := 146) dL_areRows_128 (q := 131) rfl (by decide) (fun c4 => absurd rfl c4) (fun _ => ?_)
      refine q_aload_n hJ dL_areRows_131 (q := 132) rfl rfl rfl ?_
      refine q_iconst hJ (v := (-1)) dL_areRows_132 (q := 133) rfl (by decide) ?_
      refine q_callV hJ dL_areRows_133 (q := 136) rfl ((O_keyAt (-1) hO).val (key_m A)) imX10_keyAt ln_L_20 ka_x (by decide) rfl rfl rfl rfl (Nat.le_of_ble_eq_true rfl) (by decide) (by decide) rfl rfl (fun rv gv Iv Rv hv => ?_)
      obtain ⟨rfl, rfl, rfl, rfl⟩ := hv
      refine q_sipush hJ (v := (-1002)) dL_areRows_136 (q := 139) rfl (by decide) ?_
      refine q_icmp_ne hJ (tgt := 146) dL_areRows_139 (q := 142) rfl (by decide) (fun c5 => absurd rfl c5) (fun _ => ?_)
      refine q_iconst hJ (v := 1) dL_areRows_142 (q := 143) rfl (by decide) ?_
      refine q_goto hJ (tgt := 147) dL_areRows_143 (by decide) ?_
      refine q_iret hM dL_areRows_147 rfl (by decide) ?_
      exact ⟨rfl, rfl, rfl, rfl⟩
    | succ m ih =>
      intro q l4 l5 hq
      have hqn : q < aN A := by omega
      have inner : ∀ (m t : Nat), m + t = 3 → J 0 0 59 [some (.ref 0), some (.int (nI (aN A))), some (.int (lst A q)), some (.int (nI q)), some (.int (aK A q 0)), some (.int (nI t))] [] g0 I R := by
        intro m2
        induction m2 with
        | zero =>
          intro t ht
          refine q_iload hJ dL_areRows_59 (q := 61) rfl rfl ?_
          refine q_iconst hJ (v := 3) dL_areRows_61 (q := 62) rfl (by decide) ?_
          refine q_icmp_ge hJ (tgt := 101) dL_areRows_62 (q := 65) rfl (by decide) (fun _ => ?_) (fun d1 => absurd ((nI_leI (a := 3) (b := t) (by decide) (by omega)).mpr (by omega)) d1)
          refine q_iload hJ dL_areRows_101 (q := 103) rfl rfl ?_
          refine q_istore_n hJ dL_areRows_103 (q := 104) rfl (by decide) ?_
          refine q_iinc hJ dL_areRows_104 (q := 107) rfl (by decide) rfl (nI_1 q) ?_
          refine q_goto hJ (tgt := 10) dL_areRows_107 (by decide) ?_
          have hn := ih (q + 1) (some (.int (aK A q 0))) (some (.int (nI t))) (by omega)
          rw [show lst A (q + 1) = aK A q 0 from if_neg (by omega)] at hn
          exact hn
        | succ m2 ih2 =>
          intro t ht
          refine q_iload hJ dL_areRows_59 (q := 61) rfl rfl ?_
          refine q_iconst hJ (v := 3) dL_areRows_61 (q := 62) rfl (by decide) ?_
          refine q_icmp_ge hJ (tgt := 101) dL_areRows_62 (q := 65) rfl (by decide) (fun d1 => absurd d1 (nle (a := t) (b := 3) (by omega) (by decide))) (fun _ => ?_)
          have hv9 := fld_VI hA.2.1 hqn (f := t) (by omega)
          refine q_aload_n hJ dL_areRows_65 (q := 66) rfl rfl rfl ?_
          refine q_iload hJ dL_areRows_66 (q := 68) rfl rfl ?_
          refine q_iload hJ dL_areRows_68 (q := 70) rfl rfl ?_
          refine q_callV hJ dL_areRows_70 (q := 73) rfl (O_field (aK A q 0) (nI t) hO) imX10_field ln_L_23 ka_x (by decide) rfl rfl rfl rfl (Nat.le_of_ble_eq_true rfl) (by decide) (by decide) rfl rfl (fun rv gv Iv Rv hv => ?_)
          obtain ⟨rfl, rfl, rfl, rfl⟩ := hv
          refine q_sipush hJ (v := (-999)) dL_areRows_73 (q := 76) rfl (by decide) ?_
          refine q_icmp_lt hJ (tgt := 93) dL_areRows_76 (q := 79) rfl (by decide) (fun d2 => absurd d2 hv9.1) (fun _ => ?_)
          refine q_aload_n hJ dL_areRows_79 (q := 80) rfl rfl rfl ?_
          refine q_iload hJ dL_areRows_80 (q := 82) rfl rfl ?_
          refine q_iload hJ dL_areRows_82 (q := 84) rfl rfl ?_
          refine q_callV hJ dL_areRows_84 (q := 87) rfl (O_field (aK A q 0) (nI t) hO) imX10_field ln_L_23 ka_x (by decide) rfl rfl rfl rfl (Nat.le_of_ble_eq_true rfl) (by decide) (by decide) rfl rfl (fun rv gv Iv Rv hv => ?_)
          obtain ⟨rfl, rfl, rfl, rfl⟩ := hv
          refine q_sipush hJ (v := 999) dL_areRows_87 (q := 90) rfl (by decide) ?_
          refine q_icmp_le hJ (tgt := 95) dL_areRows_90 (q := 93) rfl (by decide) (fun _ => ?_) (fun d3 => absurd (Int32.not_lt.mp hv9.2) d3)
          refine q_iinc hJ dL_areRows_95 (q := 98) rfl (by decide) rfl (nI_1 t) ?_
          refine q_goto hJ (tgt := 59) dL_areRows_98 (by decide) ?_
          exact ih2 (t + 1) (by omega)
      refine q_iload_n hJ dL_areRows_10 (q := 11) rfl rfl ?_
      refine q_iload_n hJ dL_areRows_11 (q := 12) rfl rfl ?_
      refine q_icmp_ge hJ (tgt := 110) dL_areRows_12 (q := 15) rfl (by decide) (fun c1 => absurd c1 (nle hqn (by omega))) (fun _ => ?_)
      refine q_iload_n hJ dL_areRows_15 (q := 16) rfl rfl ?_
      refine q_bipush hJ (v := 20) dL_areRows_16 (q := 18) rfl (by decide) ?_
      refine q_icmp_ge hJ (tgt := 110) dL_areRows_18 (q := 21) rfl (by decide) (fun c2 => absurd c2 (nle (a := q) (b := 20) (by omega) (by decide))) (fun _ => ?_)
      refine q_aload_n hJ dL_areRows_21 (q := 22) rfl rfl rfl ?_
      refine q_iload_n hJ dL_areRows_22 (q := 23) rfl rfl ?_
      refine q_callV hJ dL_areRows_23 (q := 26) rfl ((O_keyAt (nI q) hO).val (key_in hqn hN)) imX10_keyAt ln_L_20 ka_x (by decide) rfl rfl rfl rfl (Nat.le_of_ble_eq_true rfl) (by decide) (by decide) rfl rfl (fun rv gv Iv Rv hv => ?_)
      obtain ⟨rfl, rfl, rfl, rfl⟩ := hv
      refine q_istore hJ dL_areRows_26 (q := 28) rfl (by decide) ?_
      refine q_iload hJ dL_areRows_28 (q := 30) rfl rfl ?_
      refine q_iload_n hJ dL_areRows_30 (q := 31) rfl rfl ?_
      refine q_icmp_le hJ (tgt := 54) dL_areRows_31 (q := 34) rfl (by decide) (fun c3 => absurd c3 (lst_lt hA.2.1 hqn)) (fun _ => ?_)
      refine q_iload hJ dL_areRows_34 (q := 36) rfl rfl ?_
      refine q_bipush hJ (v := 99) dL_areRows_36 (q := 38) rfl (by decide) ?_
      refine q_icmp_gt hJ (tgt := 54) dL_areRows_38 (q := 41) rfl (by decide) (fun c4 => absurd c4 (key_99 hA.2.1 hqn)) (fun _ => ?_)
      refine q_aload_n hJ dL_areRows_41 (q := 42) rfl rfl rfl ?_
      refine q_iload hJ dL_areRows_42 (q := 44) rfl rfl ?_
      refine q_iconst hJ (v := 3) dL_areRows_44 (q := 45) rfl (by decide) ?_
      refine q_callV hJ dL_areRows_45 (q := 48) rfl ((O_field (aK A q 0) 3 hO).val (fld_3 hqn)) imX10_field ln_L_23 ka_x (by decide) rfl rfl rfl rfl (Nat.le_of_ble_eq_true rfl) (by decide) (by decide) rfl rfl (fun rv gv Iv Rv hv => ?_)
      obtain ⟨rfl, rfl, rfl, rfl⟩ := hv
      refine q_sipush hJ (v := (-1002)) dL_areRows_48 (q := 51) rfl (by decide) ?_
      refine q_icmp_eq hJ (tgt := 56) dL_areRows_51 (q := 54) rfl (by decide) (fun _ => ?_) (fun c5 => absurd rfl c5)
      refine q_iconst hJ (v := 0) dL_areRows_56 (q := 57) rfl (by decide) ?_
      refine q_istore hJ dL_areRows_57 (q := 59) rfl (by decide) ?_
      exact inner 3 0 rfl
  refine q_aload_n hJ dL_areRows_0 (q := 1) rfl rfl rfl ?_
  refine q_iconst hJ (v := 0) dL_areRows_1 (q := 2) rfl (by decide) ?_
  refine q_callV hJ dL_areRows_2 (q := 5) rfl (O_total 0 (by decide) (by decide) hO) imX10_total ln_L_14 ka_x (by decide) rfl rfl rfl rfl (Nat.le_of_ble_eq_true rfl) (by decide) (by decide) rfl rfl (fun rv gv Iv Rv hv => ?_)
  obtain ⟨rfl, rfl, rfl, rfl⟩ := hv
  refine q_istore_n hJ dL_areRows_5 (q := 6) rfl (by decide) ?_
  refine q_iconst hJ (v := (-1)) dL_areRows_6 (q := 7) rfl (by decide) ?_
  refine q_istore_n hJ dL_areRows_7 (q := 8) rfl (by decide) ?_
  refine q_iconst hJ (v := 0) dL_areRows_8 (q := 9) rfl (by decide) ?_
  refine q_istore_n hJ dL_areRows_9 (q := 10) rfl (by decide) ?_
  exact loop (aN A) 0 none none (by omega)

