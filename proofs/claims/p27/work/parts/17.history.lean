/-! HISTORY -/
def isH (b : Nat) : Prop := b = 147 ∨ b = 189 ∨ b = 231 ∨ b = 273
theorem isH.B {b : Nat} (h : isH b) : isB b := by
  unfold isH at h
  unfold isB
  omega
theorem isH.in {b : Nat} (h : isH b) : 147 ≤ b ∧ b + 42 ≤ 315 := by
  unfold isH at h
  omega
theorem isH_dis {b c : Nat} (h1 : isH b) (h2 : isH c) (h : b ≠ c) : b + 42 ≤ c ∨ c + 42 ≤ b := isB_dis h1.B h2.B h
def HSt (R : MR) (S : Nat → Nat) : Prop := ∀ j, j < 4 → R 146 j = some (S j) ∧ isH (S j) ∧ ∀ i, i < 4 → S i = S j → i = j
def HC (I : MI) (R : MR) (hs : Nat → AS) (h : Nat) : Prop := I 145 1 = nI h ∧ h ≤ 4 ∧ ∃ S, HSt R S ∧ ∀ j, j < 4 → CS I R (S j) (hs j)
def rtR (R : MR) (S : Nat → Nat) (j : Nat) : MR := fun a t => if a = 146 ∧ t < j then some (if t + 1 < j then S (t + 1) else S 0) else R a t
def rotS {α : Type} (S : Nat → α) : Nat → α := fun t => if t < 3 then S (t + 1) else S 0
theorem rtR_1 {R : MR} {S : Nat → Nat} (h : R 146 0 = some (S 0)) : rtR R S 1 = R := by
  funext a t
  simp only [rtR]
  by_cases hz : a = 146 ∧ t < 1
  · obtain ⟨rfl, h2⟩ := hz
    obtain rfl : t = 0 := by omega
    rw [if_pos ⟨rfl, h2⟩, if_neg (by omega), h]
  · rw [if_neg hz]
theorem rtR_step {R : MR} {S : Nat → Nat} {j : Nat} (h1 : 1 ≤ j) : up2 (up2 (rtR R S j) 146 j (some (S 0))) 146 (j - 1) (some (S j)) = rtR R S (j + 1) := by
  funext a t
  simp only [up2_app, rtR]
  by_cases ha : a = 146
  · by_cases e1 : t = j - 1
    · subst e1
      have hz : a = 146 ∧ j - 1 < j + 1 := ⟨ha, by omega⟩
      rw [if_pos ⟨ha, rfl⟩, if_pos hz, if_pos (by omega), show j - 1 + 1 = j by omega]
    · rw [if_neg (fun z => e1 z.2)]
      by_cases e2 : t = j
      · subst e2
        have hz : a = 146 ∧ t < t + 1 := ⟨ha, by omega⟩
        rw [if_pos ⟨ha, rfl⟩, if_pos hz, if_neg (by omega)]
      · rw [if_neg (fun z => e2 z.2)]
        by_cases e3 : t < j
        · have hz : a = 146 ∧ t < j + 1 := ⟨ha, by omega⟩
          rw [if_pos ⟨ha, e3⟩, if_pos hz, if_pos (by omega), if_pos (by omega)]
        · rw [if_neg (fun z => e3 z.2), if_neg (fun z => by omega)]
  · rw [if_neg (fun z => ha z.1), if_neg (fun z => ha z.1), if_neg (fun z => ha z.1), if_neg (fun z => ha z.1)]
theorem rtR_other {R : MR} {S : Nat → Nat} {j a : Nat} (h : a ≠ 146) : rtR R S j a = R a := by
  funext t
  simp only [rtR]
  rw [if_neg (fun z => h z.1)]
theorem ka145 : KA g0 145 2 0 := ka0 (by decide)
theorem ka146 : KA g0 146 17 4 := ka0 (by decide)
theorem raA_146 : raA 146 := by unfold raA; decide
theorem rtR_FR {R : MR} (hF : FR R) {S : Nat → Nat} (h : R 146 0 = some (S 0)) (j : Nat) (h1 : 1 ≤ j) : FR (rtR R S j) := by
  induction j with
  | zero => omega
  | succ j ih =>
    by_cases hj : j = 0
    · subst hj
      rw [show 0 + 1 = 1 from rfl, rtR_1 h]
      exact hF
    · rw [← rtR_step (by omega)]
      exact ((ih (by omega)).upd raA_146).upd raA_146
theorem rtR_HSt {R : MR} {S : Nat → Nat} (h : HSt R S) : HSt (rtR R S 4) (rotS S) := by
  intro j hj
  have key : ∀ j, j < 4 → ∃ t, t < 4 ∧ rotS S j = S t ∧ (t = if j < 3 then j + 1 else 0) := by
    intro j hj
    unfold rotS
    by_cases h3 : j < 3
    · exact ⟨j + 1, by omega, by rw [if_pos h3], by rw [if_pos h3]⟩
    · exact ⟨0, by omega, by rw [if_neg h3], by rw [if_neg h3]⟩
  obtain ⟨t, ht, e, et⟩ := key j hj
  refine ⟨?_, by rw [e]; exact (h t ht).2.1, fun i hi he => ?_⟩
  · simp only [rtR, rotS]
    rw [if_pos ⟨trivial, hj⟩]
    congr 1
    by_cases h3 : j < 3
    · rw [if_pos h3, if_pos (by omega)]
    · rw [if_neg h3, if_neg (by omega)]
  · obtain ⟨u, hu, e2, eu⟩ := key i hi
    have := (h t ht).2.2 u hu (by rw [← e, ← e2]; exact he)
    rw [eu, et] at this
    split at this <;> split at this <;> omega
theorem nI_4 : (4 : Int32) = nI 4 := by decide
set_option maxRecDepth 100000 in
set_option maxHeartbeats 400000 in
theorem S_dropOldest (h : Nat) (S : Nat → Nat) (I : MI) (R : MR) (hFR : FR R) (hS : HSt R S) (hc : I 145 1 = nI h) (hh : 1 ≤ h) : Sp 0 0 0 mX2_dropOldest [.ref 145] g0 I R (Rt none g0 (up2 I 145 1 (nI (h - 1))) (rtR R S 4)) := by
  have hk1 := ka145
  have hk2 := ka146
  have hr0 := hFR.2.2.2.1.1
  refine Sp.on (by decide +kernel) rfl rfl (fun J hM => ?_)
  have hJ := hM.ok
  have loop : ∀ (k j : Nat) (w : Option Value), j + k = 4 → 1 ≤ j → J 0 0 2 [some (.ref 145), some (.int (nI j)), w] [] g0 I (rtR R S j) := by
    intro k
    induction k with
    | zero =>
      intro j w hj hj1
      have hr : rtR R S j 145 0 = some 146 := (congrFun (rtR_other (by decide)) 0).trans hr0
      refine q_iload_n hJ dX2_dropOldest_2 (q := 3) rfl rfl ?_
      refine q_aload_n hJ dX2_dropOldest_3 (q := 4) rfl rfl rfl ?_
      refine q_getR hJ dX2_dropOldest_4 (q := 7) rfl fl_X2_11 rfl (by assumption) hr rfl ?_
      refine q_alen hJ (v := 4) dX2_dropOldest_7 (q := 8) rfl (by assumption) (by decide) (by decide) (by decide) ?_
      refine q_icmp_ge hJ (tgt := 47) dX2_dropOldest_8 (q := 11) rfl (by decide) (fun _ => ?_) (fun c1 => absurd (by rw [nI_4]; exact (nI_leI (by decide) (by omega)).mpr (by omega)) c1)
      refine q_aload_n hJ dX2_dropOldest_47 (q := 48) rfl rfl rfl ?_
      refine q_dup hJ dX2_dropOldest_48 (q := 49) rfl rfl ?_
      refine q_getI hJ dX2_dropOldest_49 (q := 52) rfl fl_X2_18 rfl (by assumption) hc ?_
      refine q_iconst hJ (v := 1) dX2_dropOldest_52 (q := 53) rfl (by decide) ?_
      refine q_isub hJ dX2_dropOldest_53 (q := 54) rfl ?_
      refine q_putI hJ dX2_dropOldest_54 (q := 57) rfl fl_X2_18 rfl rfl (by assumption) rfl rfl ?_
      refine q_vret hM dX2_dropOldest_57 rfl ?_
      obtain rfl : j = 4 := by omega
      exact ⟨rfl, rfl, by rw [show h = (h - 1) + 1 by omega, nI_pred]; rfl, rfl⟩
    | succ k ih =>
      intro j w hj hj1
      have hr : rtR R S j 145 0 = some 146 := (congrFun (rtR_other (by decide)) 0).trans hr0
      have hvj : rtR R S j 146 j = some (S j) := by simp only [rtR]; rw [if_neg (fun z => by omega)]; exact (hS j (by omega)).1
      have hv0 : rtR R S j 146 (j - 1) = some (S 0) := by simp only [rtR]; rw [if_pos ⟨trivial, by omega⟩, if_neg (by omega)]
      refine q_iload_n hJ dX2_dropOldest_2 (q := 3) rfl rfl ?_
      refine q_aload_n hJ dX2_dropOldest_3 (q := 4) rfl rfl rfl ?_
      refine q_getR hJ dX2_dropOldest_4 (q := 7) rfl fl_X2_11 rfl (by assumption) hr rfl ?_
      refine q_alen hJ (v := 4) dX2_dropOldest_7 (q := 8) rfl (by assumption) (by decide) (by decide) (by decide) ?_
      refine q_icmp_ge hJ (tgt := 47) dX2_dropOldest_8 (q := 11) rfl (by decide) (fun c1 => absurd (by rw [nI_4] at c1; exact (nI_leI (by decide) (by omega)).mp c1) (by omega)) (fun _ => ?_)
      refine q_aload_n hJ dX2_dropOldest_11 (q := 12) rfl rfl rfl ?_
      refine q_getR hJ dX2_dropOldest_12 (q := 15) rfl fl_X2_11 rfl (by assumption) hr rfl ?_
      refine q_iload_n hJ dX2_dropOldest_15 (q := 16) rfl rfl ?_
      refine q_aald hJ dX2_dropOldest_16 (q := 17) rfl (by assumption) (by decide) (ix_nI (by omega) (by decide)) hvj rfl ?_
      refine q_astore_n hJ dX2_dropOldest_17 (q := 18) rfl (by decide) rfl ?_
      refine q_aload_n hJ dX2_dropOldest_18 (q := 19) rfl rfl rfl ?_
      refine q_getR hJ dX2_dropOldest_19 (q := 22) rfl fl_X2_11 rfl (by assumption) hr rfl ?_
      refine q_iload_n hJ dX2_dropOldest_22 (q := 23) rfl rfl ?_
      refine q_aload_n hJ dX2_dropOldest_23 (q := 24) rfl rfl rfl ?_
      refine q_getR hJ dX2_dropOldest_24 (q := 27) rfl fl_X2_11 rfl (by assumption) hr rfl ?_
      refine q_iload_n hJ dX2_dropOldest_27 (q := 28) rfl rfl ?_
      refine q_iconst hJ (v := 1) dX2_dropOldest_28 (q := 29) rfl (by decide) ?_
      refine q_isub hJ dX2_dropOldest_29 (q := 30) rfl ?_
      refine q_aald hJ dX2_dropOldest_30 (q := 31) rfl (by assumption) (by decide) (by rw [show j = (j - 1) + 1 by omega, nI_pred]; exact ix_nI (by omega) (by decide)) hv0 rfl ?_
      refine q_aast hJ dX2_dropOldest_31 (q := 32) rfl (by assumption) (Or.inr (Or.inr ⟨rfl, ka_sta (hS 0 (by omega)).2.1.B⟩)) (ix_nI (by omega) (by decide)) ?_
      refine q_aload_n hJ dX2_dropOldest_32 (q := 33) rfl rfl rfl ?_
      refine q_getR hJ dX2_dropOldest_33 (q := 36) rfl fl_X2_11 rfl (by assumption) (show up2 (rtR R S j) 146 j (some (S 0)) 145 0 = some 146 from (congrFun (up2_other _ _ _ _ (by decide)) 0).trans hr) rfl ?_
      refine q_iload_n hJ dX2_dropOldest_36 (q := 37) rfl rfl ?_
      refine q_iconst hJ (v := 1) dX2_dropOldest_37 (q := 38) rfl (by decide) ?_
      refine q_isub hJ dX2_dropOldest_38 (q := 39) rfl ?_
      refine q_aload_n hJ dX2_dropOldest_39 (q := 40) rfl rfl rfl ?_
      refine q_aast hJ dX2_dropOldest_40 (q := 41) rfl (by assumption) (Or.inr (Or.inr ⟨rfl, ka_sta (hS j (by omega)).2.1.B⟩)) (by rw [show j = (j - 1) + 1 by omega, nI_pred]; exact ix_nI (by omega) (by decide)) ?_
      rw [rtR_step hj1]
      refine q_iinc hJ dX2_dropOldest_41 (q := 44) rfl (by decide) rfl (nI_1 j) ?_
      refine q_goto hJ (tgt := 2) dX2_dropOldest_44 (by decide) ?_
      exact ih (j + 1) _ (by omega) (by omega)
  refine q_iconst hJ (v := 1) dX2_dropOldest_0 (q := 1) rfl (by decide) ?_
  refine q_istore_n hJ dX2_dropOldest_1 (q := 2) rfl (by decide) ?_
  have h0 := loop 3 1 none (by omega) (by omega)
  rw [rtR_1 (hS 0 (by omega)).1] at h0
  exact h0

def pushH (hs : Nat → AS) (h : Nat) (A : AS) : Nat → AS := if h < 4 then fun j => if j = h then A else hs j else fun j => if j = 3 then A else rotS hs j
def pushN (h : Nat) : Nat := if h < 4 then h + 1 else 4
/-- the history's cells alone change -/
def HPo (I : MI) (R : MR) (hs : Nat → AS) (h : Nat) : Po := fun r g' I' R' => r = none ∧ g0 = g' ∧ HC I' R' hs h ∧ Out I I' 145 315 ∧ Out R R' 146 147 ∧ FR R'
theorem HC.put {I : MI} {R : MR} {hs : Nat → AS} {h : Nat} {S : Nat → Nat} (hS : HSt R S) (hC : ∀ j, j < 4 → CS I R (S j) (hs j)) {t : Nat} (ht : t < 4) {A : AS} {I' : MI} (h1 : CS I' R (S t) A) (h2 : Out I I' (S t) (S t + 42)) (hh : h ≤ 4) : HC (up2 I' 145 1 (nI h)) R (fun j => if j = t then A else hs j) h := by
  refine ⟨by simp [up2_app], hh, S, hS, fun j hj => ?_⟩
  have hb := (hS j hj).2.1.in
  have hup : ∀ a, a ≠ 145 → up2 I' 145 1 (nI h) a = I' a := fun a ha => up2_other _ _ _ _ ha
  show CS _ _ _ (if j = t then A else hs j)
  by_cases e : j = t
  · subst e
    rw [if_pos rfl]
    exact h1.agr (fun a q1 q2 => hup a (by omega)) (Agr.rf _ _ _)
  · rw [if_neg e]
    have hd := isH_dis (hS j hj).2.1 (hS t ht).2.1 (fun z => e ((hS t ht).2.2 j hj z))
    exact (hC j hj).agr (fun a q1 q2 => (hup a (by omega)).trans (h2 a (by omega))) (Agr.rf _ _ _)
set_option maxRecDepth 100000 in
set_option maxHeartbeats 400000 in
theorem S_push (c h : Nat) (hs : Nat → AS) (A : AS) (I : MI) (R : MR) (hFR : FR R) (hH : HC I R hs h) (hB : isB c) (hcl : c + 42 ≤ 145) (hA : CS I R c A) (hok : okU (aU A) (aM A)) : Sp 5 0 0 mX2_push [.ref 145, .ref c] g0 I R (HPo I R (pushH hs h A) (pushN h)) := by
  have hk1 := ka145
  have hk2 := ka146
  have hr0 := hFR.2.2.2.1.1
  obtain ⟨hc, hh, S, hS, hC⟩ := hH
  refine Sp.on (by decide +kernel) rfl rfl (fun J hM => ?_)
  have hJ := hM.ok
  by_cases hlt : h < 4
  · rw [show pushH hs h A = (fun j => if j = h then A else hs j) from if_pos hlt, show pushN h = h + 1 from if_pos hlt] at hM
    have hr := hr0
    have hS2 := hS
    have hC2 := hC
    have hF2 := hFR
    have hA2 := hA
    have hO0 : Out I I 145 315 := Out.rf _ _ _
    have hR2 : Out R R 146 147 := Out.rf _ _ _
    refine q_aload_n hJ dX2_push_0 (q := 1) rfl rfl rfl ?_
    refine q_getI hJ dX2_push_1 (q := 4) rfl fl_X2_18 rfl (by assumption) hc ?_
    refine q_iconst hJ (v := 4) dX2_push_4 (q := 5) rfl (by decide) ?_
    refine q_icmp_lt hJ (tgt := 12) dX2_push_5 (q := 8) rfl (by decide) (fun _ => ?_) (fun c1 => absurd (by rw [nI_4]; exact (nI_ltI (by omega) (by decide)).mpr hlt) c1)
    refine q_aload_n hJ dX2_push_12 (q := 13) rfl rfl rfl ?_
    refine q_getI hJ dX2_push_13 (q := 16) rfl fl_X2_18 rfl (by assumption) hc ?_
    refine q_if_lt hJ (tgt := 31) dX2_push_16 (q := 19) rfl (by decide) (fun c2 => absurd c2 (nI_pos (by omega))) (fun _ => ?_)
    refine q_aload_n hJ dX2_push_19 (q := 20) rfl rfl rfl ?_
    refine q_getI hJ dX2_push_20 (q := 23) rfl fl_X2_18 rfl (by assumption) hc ?_
    refine q_aload_n hJ dX2_push_23 (q := 24) rfl rfl rfl ?_
    refine q_getR hJ dX2_push_24 (q := 27) rfl fl_X2_11 rfl (by assumption) hr rfl ?_
    refine q_alen hJ (v := 4) dX2_push_27 (q := 28) rfl (by assumption) (by decide) (by decide) (by decide) ?_
    refine q_icmp_lt hJ (tgt := 32) dX2_push_28 (q := 31) rfl (by decide) (fun _ => ?_) (fun c3 => absurd (by rw [nI_4]; exact (nI_ltI (by omega) (by decide)).mpr (by omega)) c3)
    refine q_aload_n hJ dX2_push_32 (q := 33) rfl rfl rfl ?_
    refine q_getR hJ dX2_push_33 (q := 36) rfl fl_X2_11 rfl (by assumption) hr rfl ?_
    refine q_aload_n hJ dX2_push_36 (q := 37) rfl rfl rfl ?_
    refine q_getI hJ dX2_push_37 (q := 40) rfl fl_X2_18 rfl (by assumption) hc ?_
    refine q_aald hJ dX2_push_40 (q := 41) rfl (by assumption) (by decide) (ix_nI (by omega) (by decide)) (hS2 h (by omega)).1 rfl ?_
    refine q_astore_n hJ dX2_push_41 (q := 42) rfl (by decide) rfl ?_
    refine q_aload_n hJ dX2_push_42 (q := 43) rfl rfl rfl ?_
    refine q_nullN hJ dX2_push_43 (q := 46) rfl ?_
    refine q_aload_n hJ dX2_push_46 (q := 47) rfl rfl rfl ?_
    refine q_aload_n hJ dX2_push_47 (q := 48) rfl rfl rfl ?_
    refine q_callV hJ dX2_push_48 (q := 51) rfl (S_stateCopy (S h) c _ A _ _ (hS2 h (by omega)).2.1.B hB (fun z => by have := (hS2 h (by omega)).2.1.in; omega) hF2 (hC2 h (by omega)) hA2 hok) imX7_copyFrom ln_X2_25 (ka_sta (hS2 h (by omega)).2.1.B) (by decide) rfl rfl rfl rfl (Nat.le_of_ble_eq_true rfl) (by decide) (by decide) rfl rfl (fun rv gv Iv Rv hv => ?_)
    obtain ⟨rfl, rfl, rfl, hX, hO⟩ := hv
    have hin := (hS2 h (by omega)).2.1.in
    have hcn : Iv 145 1 = nI h := (congrFun (hO 145 (by omega)) 1).trans hc
    refine q_aload_n hJ dX2_push_51 (q := 52) rfl rfl rfl ?_
    refine q_dup hJ dX2_push_52 (q := 53) rfl rfl ?_
    refine q_getI hJ dX2_push_53 (q := 56) rfl fl_X2_18 rfl (by assumption) hcn ?_
    refine q_iconst hJ (v := 1) dX2_push_56 (q := 57) rfl (by decide) ?_
    refine q_iadd hJ dX2_push_57 (q := 58) rfl ?_
    rw [nI_1]
    refine q_putI hJ dX2_push_58 (q := 61) rfl fl_X2_18 rfl rfl (by assumption) rfl rfl ?_
    refine q_vret hM dX2_push_61 rfl ?_
    refine ⟨rfl, rfl, ?_, ?_, ?_, hF2⟩
    · first | exact HC.put hS2 hC2 (by omega) hX hO (by omega) | (have hp := HC.put (h := h + 1) hS2 hC2 (by omega) hX hO (by omega); simp only [pushH, pushN, hlt, if_true, if_false] at hp ⊢; exact hp)
    · exact (hO0.trans (hO.wide (by omega) (by omega))).up (by omega) (by omega)
    · exact hR2
  · obtain rfl : h = 4 := by omega
    rw [show pushH hs 4 A = (fun j => if j = 3 then A else rotS hs j) from rfl, show pushN 4 = 4 from rfl] at hM
    have hr : rtR R S 4 145 0 = some 146 := (congrFun (rtR_other (by decide)) 0).trans hr0
    have hS2 := rtR_HSt hS
    have hF2 := rtR_FR hFR (hS 0 (by omega)).1 4 (by omega)
    have hag : ∀ b, b + 42 ≤ 145 ∨ 147 ≤ b → ∀ B, CS I R b B → CS (up2 I 145 1 (nI 3)) (rtR R S 4) b B := fun b hb B hB1 => hB1.agr (fun a q1 q2 => up2_other _ _ _ _ (by omega)) (fun a q1 q2 => rtR_other (by omega))
    have hC2 : ∀ j, j < 4 → CS (up2 I 145 1 (nI 3)) (rtR R S 4) (rotS S j) (rotS hs j) := fun j hj => by
      unfold rotS
      by_cases h3 : j < 3
      · rw [if_pos h3, if_pos h3]
        exact hag _ (Or.inr (hS (j + 1) (by omega)).2.1.in.1) _ (hC (j + 1) (by omega))
      · rw [if_neg h3, if_neg h3]
        exact hag _ (Or.inr (hS 0 (by omega)).2.1.in.1) _ (hC 0 (by omega))
    have hA2 := hag c (Or.inl (by omega)) A hA
    have hO0 : Out I (up2 I 145 1 (nI 3)) 145 315 := (Out.rf I 145 315).up (by omega) (by omega)
    have hR2 : Out R (rtR R S 4) 146 147 := fun a ha => rtR_other (by omega)
    refine q_aload_n hJ dX2_push_0 (q := 1) rfl rfl rfl ?_
    refine q_getI hJ dX2_push_1 (q := 4) rfl fl_X2_18 rfl (by assumption) hc ?_
    refine q_iconst hJ (v := 4) dX2_push_4 (q := 5) rfl (by decide) ?_
    refine q_icmp_lt hJ (tgt := 12) dX2_push_5 (q := 8) rfl (by decide) (fun c1 => absurd c1 (by decide)) (fun _ => ?_)
    refine q_aload_n hJ dX2_push_8 (q := 9) rfl rfl rfl ?_
    refine q_callV hJ dX2_push_9 (q := 12) rfl (S_dropOldest 4 S I R hFR hS hc (by decide)) imX2_dropOldest ln_X2_22 (by assumption) (by decide) rfl rfl rfl rfl (Nat.le_of_ble_eq_true rfl) (by decide) (by decide) rfl rfl (fun rv gv Iv Rv hv => ?_)
    obtain ⟨rfl, rfl, rfl, rfl⟩ := hv
    refine q_aload_n hJ dX2_push_12 (q := 13) rfl rfl rfl ?_
    refine q_getI hJ dX2_push_13 (q := 16) rfl fl_X2_18 rfl (by assumption) (show up2 I 145 1 (nI 3) 145 1 = nI 3 from by simp [up2_app]) ?_
    refine q_if_lt hJ (tgt := 31) dX2_push_16 (q := 19) rfl (by decide) (fun c2 => absurd c2 (nI_pos (by omega))) (fun _ => ?_)
    refine q_aload_n hJ dX2_push_19 (q := 20) rfl rfl rfl ?_
    refine q_getI hJ dX2_push_20 (q := 23) rfl fl_X2_18 rfl (by assumption) (show up2 I 145 1 (nI 3) 145 1 = nI 3 from by simp [up2_app]) ?_
    refine q_aload_n hJ dX2_push_23 (q := 24) rfl rfl rfl ?_
    refine q_getR hJ dX2_push_24 (q := 27) rfl fl_X2_11 rfl (by assumption) hr rfl ?_
    refine q_alen hJ (v := 4) dX2_push_27 (q := 28) rfl (by assumption) (by decide) (by decide) (by decide) ?_
    refine q_icmp_lt hJ (tgt := 32) dX2_push_28 (q := 31) rfl (by decide) (fun _ => ?_) (fun c3 => absurd (by rw [nI_4]; exact (nI_ltI (by omega) (by decide)).mpr (by omega)) c3)
    refine q_aload_n hJ dX2_push_32 (q := 33) rfl rfl rfl ?_
    refine q_getR hJ dX2_push_33 (q := 36) rfl fl_X2_11 rfl (by assumption) hr rfl ?_
    refine q_aload_n hJ dX2_push_36 (q := 37) rfl rfl rfl ?_
    refine q_getI hJ dX2_push_37 (q := 40) rfl fl_X2_18 rfl (by assumption) (show up2 I 145 1 (nI 3) 145 1 = nI 3 from by simp [up2_app]) ?_
    refine q_aald hJ dX2_push_40 (q := 41) rfl (by assumption) (by decide) (ix_nI (by omega) (by decide)) (hS2 3 (by omega)).1 rfl ?_
    refine q_astore_n hJ dX2_push_41 (q := 42) rfl (by decide) rfl ?_
    refine q_aload_n hJ dX2_push_42 (q := 43) rfl rfl rfl ?_
    refine q_nullN hJ dX2_push_43 (q := 46) rfl ?_
    refine q_aload_n hJ dX2_push_46 (q := 47) rfl rfl rfl ?_
    refine q_aload_n hJ dX2_push_47 (q := 48) rfl rfl rfl ?_
    refine q_callV hJ dX2_push_48 (q := 51) rfl (S_stateCopy (rotS S 3) c _ A _ _ (hS2 3 (by omega)).2.1.B hB (fun z => by have := (hS2 3 (by omega)).2.1.in; omega) hF2 (hC2 3 (by omega)) hA2 hok) imX7_copyFrom ln_X2_25 (ka_sta (hS2 3 (by omega)).2.1.B) (by decide) rfl rfl rfl rfl (Nat.le_of_ble_eq_true rfl) (by decide) (by decide) rfl rfl (fun rv gv Iv Rv hv => ?_)
    obtain ⟨rfl, rfl, rfl, hX, hO⟩ := hv
    have hin := (hS2 3 (by omega)).2.1.in
    have hcn : Iv 145 1 = nI 3 := (congrFun (hO 145 (by omega)) 1).trans (show up2 I 145 1 (nI 3) 145 1 = nI 3 from by simp [up2_app])
    refine q_aload_n hJ dX2_push_51 (q := 52) rfl rfl rfl ?_
    refine q_dup hJ dX2_push_52 (q := 53) rfl rfl ?_
    refine q_getI hJ dX2_push_53 (q := 56) rfl fl_X2_18 rfl (by assumption) hcn ?_
    refine q_iconst hJ (v := 1) dX2_push_56 (q := 57) rfl (by decide) ?_
    refine q_iadd hJ dX2_push_57 (q := 58) rfl ?_
    rw [nI_1]
    refine q_putI hJ dX2_push_58 (q := 61) rfl fl_X2_18 rfl rfl (by assumption) rfl rfl ?_
    refine q_vret hM dX2_push_61 rfl ?_
    refine ⟨rfl, rfl, ?_, ?_, ?_, hF2⟩
    · first | exact HC.put hS2 hC2 (by omega) hX hO (by omega) | (have hp := HC.put (h := 3 + 1) hS2 hC2 (by omega) hX hO (by omega); simp only [pushH, pushN, hlt, if_true, if_false] at hp ⊢; exact hp)
    · exact (hO0.trans (hO.wide (by omega) (by omega))).up (by omega) (by omega)
    · exact hR2

theorem nI_one : (1 : Int32) = nI 1 := by decide
set_option maxRecDepth 100000 in
set_option maxHeartbeats 400000 in
theorem S_pop (c h : Nat) (hs : Nat → AS) (A : AS) (I : MI) (R : MR) (hFR : FR R) (hH : HC I R hs h) (h0 : 0 < h) (hB : isB c) (hcl : c + 42 ≤ 145) (hA : CS I R c A) (hok : ∀ j, j < h → okU (aU (hs j)) (aM (hs j))) : Sp 5 0 0 mX2_popInto [.ref 145, .ref c] g0 I R (fun r g' I' R' => r = some (.int 1) ∧ g0 = g' ∧ R = R' ∧ CS I' R c (hs (h - 1)) ∧ HC I' R hs (h - 1) ∧ ∀ a, a < c ∨ c + 42 ≤ a → a ≠ 145 → I' a = I a) := by
  have hk1 := ka145
  have hk2 := ka146
  have hr0 := hFR.2.2.2.1.1
  obtain ⟨hc, hh, S, hS, hC⟩ := hH
  refine Sp.on (by decide +kernel) rfl rfl (fun J hM => ?_)
  have hJ := hM.ok
  refine q_aload_n hJ dX2_popInto_0 (q := 1) rfl rfl rfl ?_
  refine q_getI hJ dX2_popInto_1 (q := 4) rfl fl_X2_18 rfl (by assumption) hc ?_
  refine q_iconst hJ (v := 1) dX2_popInto_4 (q := 5) rfl (by decide) ?_
  refine q_icmp_lt hJ (tgt := 20) dX2_popInto_5 (q := 8) rfl (by decide) (fun c1 => absurd (by rw [nI_one] at c1; exact (nI_ltI (by omega) (by decide)).mp c1) (by omega)) (fun _ => ?_)
  refine q_aload_n hJ dX2_popInto_8 (q := 9) rfl rfl rfl ?_
  refine q_getI hJ dX2_popInto_9 (q := 12) rfl fl_X2_18 rfl (by assumption) hc ?_
  refine q_aload_n hJ dX2_popInto_12 (q := 13) rfl rfl rfl ?_
  refine q_getR hJ dX2_popInto_13 (q := 16) rfl fl_X2_11 rfl (by assumption) hr0 rfl ?_
  refine q_alen hJ (v := 4) dX2_popInto_16 (q := 17) rfl (by assumption) (by decide) (by decide) (by decide) ?_
  refine q_icmp_le hJ (tgt := 22) dX2_popInto_17 (q := 20) rfl (by decide) (fun _ => ?_) (fun c2 => absurd (by rw [nI_4]; exact (nI_leI (by omega) (by decide)).mpr hh) c2)
  refine q_aload_n hJ dX2_popInto_22 (q := 23) rfl rfl rfl ?_
  refine q_getR hJ dX2_popInto_23 (q := 26) rfl fl_X2_11 rfl (by assumption) hr0 rfl ?_
  refine q_aload_n hJ dX2_popInto_26 (q := 27) rfl rfl rfl ?_
  refine q_getI hJ dX2_popInto_27 (q := 30) rfl fl_X2_18 rfl (by assumption) hc ?_
  refine q_iconst hJ (v := 1) dX2_popInto_30 (q := 31) rfl (by decide) ?_
  refine q_isub hJ dX2_popInto_31 (q := 32) rfl ?_
  rw [show nI h - 1 = nI (h - 1) from by rw [show h = (h - 1) + 1 by omega, nI_pred]; rfl]
  refine q_aald hJ dX2_popInto_32 (q := 33) rfl (by assumption) (by decide) (ix_nI (by omega) (by decide)) (hS (h - 1) (by omega)).1 rfl ?_
  refine q_astore_n hJ dX2_popInto_33 (q := 34) rfl (by decide) rfl ?_
  refine q_aload_n hJ dX2_popInto_34 (q := 35) rfl rfl rfl ?_
  refine q_nonnullN hJ (tgt := 40) dX2_popInto_35 (by decide) ?_
  refine q_aload_n hJ dX2_popInto_40 (q := 41) rfl rfl rfl ?_
  refine q_aload_n hJ dX2_popInto_41 (q := 42) rfl rfl rfl ?_
  refine q_callV hJ dX2_popInto_42 (q := 45) rfl (S_stateCopy c (S (h - 1)) A _ _ _ hB (hS (h - 1) (by omega)).2.1.B (fun z => by have := (hS (h - 1) (by omega)).2.1.in; omega) hFR hA (hC (h - 1) (by omega)) (hok (h - 1) (by omega))) imX7_copyFrom ln_X2_25 (ka_sta hB) (by decide) rfl rfl rfl rfl (Nat.le_of_ble_eq_true rfl) (by decide) (by decide) rfl rfl (fun rv gv Iv Rv hv => ?_)
  obtain ⟨rfl, rfl, rfl, hX, hO⟩ := hv
  have hcn : Iv 145 1 = nI h := (congrFun (hO 145 (by omega)) 1).trans hc
  refine q_aload_n hJ dX2_popInto_45 (q := 46) rfl rfl rfl ?_
  refine q_dup hJ dX2_popInto_46 (q := 47) rfl rfl ?_
  refine q_getI hJ dX2_popInto_47 (q := 50) rfl fl_X2_18 rfl (by assumption) hcn ?_
  refine q_iconst hJ (v := 1) dX2_popInto_50 (q := 51) rfl (by decide) ?_
  refine q_isub hJ dX2_popInto_51 (q := 52) rfl ?_
  rw [show nI h - 1 = nI (h - 1) from by rw [show h = (h - 1) + 1 by omega, nI_pred]; rfl]
  refine q_putI hJ dX2_popInto_52 (q := 55) rfl fl_X2_18 rfl rfl (by assumption) rfl rfl ?_
  refine q_iconst hJ (v := 1) dX2_popInto_55 (q := 56) rfl (by decide) ?_
  refine q_iret hM dX2_popInto_56 rfl (nz rfl (by decide)) ?_
  have hup : ∀ a, a ≠ 145 → up2 Iv 145 1 (nI (h - 1)) a = Iv a := fun a ha => up2_other _ _ _ _ ha
  refine ⟨rfl, rfl, rfl, hX.agr (fun a q1 q2 => hup a (by omega)) (Agr.rf _ _ _), ⟨by simp [up2_app], by omega, S, hS, fun j hj => (hC j hj).agr (fun a q1 q2 => ?_) (Agr.rf _ _ _)⟩, fun a h1 h2 => ?_⟩
  · have := (hS j hj).2.1.in
    rw [hup a (by omega)]; exact hO a (by omega)
  · rw [hup a h2]; exact hO a h1

set_option maxRecDepth 100000 in
set_option maxHeartbeats 400000 in
theorem S_pop0 (c : Nat) (I : MI) (R : MR) (hc : I 145 1 = nI 0) : Sp 5 0 0 mX2_popInto [.ref 145, .ref c] g0 I R (Rt (some (.int 0)) g0 I R) := by
  have hk1 := ka145
  refine Sp.on (by decide +kernel) rfl rfl (fun J hM => ?_)
  have hJ := hM.ok
  refine q_aload_n hJ dX2_popInto_0 (q := 1) rfl rfl rfl ?_
  refine q_getI hJ dX2_popInto_1 (q := 4) rfl fl_X2_18 rfl (by assumption) hc ?_
  refine q_iconst hJ (v := 1) dX2_popInto_4 (q := 5) rfl (by decide) ?_
  refine q_icmp_lt hJ (tgt := 20) dX2_popInto_5 (q := 8) rfl (by decide) (fun _ => ?_) (fun c1 => absurd (by decide) c1)
  refine q_iconst hJ (v := 0) dX2_popInto_20 (q := 21) rfl (by decide) ?_
  refine q_iret hM dX2_popInto_21 rfl (nz rfl (by decide)) ?_
  exact ⟨rfl, rfl, rfl, rfl⟩

