/-! THE LIST OF RULES, second part: the order, adding, removing, copying -/
def insR (rk : Nat → Int32) (o : Nat → Nat) (x : Int32) : Nat → Nat
  | 0 => 0
  | q + 1 => if x < rk (o q) then insR rk o x q else q + 1
def osrt (rk : Nat → Int32) : Nat → Nat → Nat
  | 0 => fun _ => 0
  | k + 1 => fun j => if j < insR rk (osrt rk k) (rk k) k then osrt rk k j else if j = insR rk (osrt rk k) (rk k) k then k else osrt rk k (j - 1)
theorem insR_le (rk : Nat → Int32) (o : Nat → Nat) (x : Int32) (n : Nat) : insR rk o x n ≤ n := by
  induction n with
  | zero => exact Nat.le_refl 0
  | succ n ih =>
    unfold insR
    split
    · omega
    · exact Nat.le_refl _
theorem osrt_lt (rk : Nat → Int32) (k j : Nat) (h : j < k) : osrt rk k j < k := by
  induction k generalizing j with
  | zero => omega
  | succ k ih =>
    have hle := insR_le rk (osrt rk k) (rk k) k
    show (if j < insR rk (osrt rk k) (rk k) k then osrt rk k j else if j = insR rk (osrt rk k) (rk k) k then k else osrt rk k (j - 1)) < k + 1
    split
    · have := ih j (by omega)
      omega
    · split
      · omega
      · have := ih (j - 1) (by omega)
        omega
def nuM (I : MI) (b : Nat) (o : Nat → Nat) (k : Nat) : MI := fun a j => if a = b + 25 ∧ j < k then nI (o j) else I a j
def shN (I : MI) (b : Nat) (o : Nat → Nat) (k q : Nat) : MI := fun a j => if a = b + 25 ∧ q < j ∧ j ≤ k then nI (o (j - 1)) else I a j
theorem nuM_0 (I : MI) (b : Nat) (o : Nat → Nat) : nuM I b o 0 = I := by
  funext a j
  simp only [nuM]
  rw [if_neg]
  omega
theorem nuM_other {I : MI} {b : Nat} {o : Nat → Nat} {k a : Nat} (h : a ≠ b + 25) (j : Nat) : nuM I b o k a j = I a j := by
  simp only [nuM]
  rw [if_neg (fun z => h z.1)]
theorem shN_other {I : MI} {b : Nat} {o : Nat → Nat} {k q a : Nat} (h : a ≠ b + 25) (j : Nat) : shN I b o k q a j = I a j := by
  simp only [shN]
  rw [if_neg (fun z => h z.1)]
theorem shN_low {I : MI} {b : Nat} {o : Nat → Nat} {k q a j : Nat} (h : j ≤ q) : shN I b o k q a j = I a j := by
  simp only [shN]
  rw [if_neg (fun z => by omega)]
theorem nuM_in {I : MI} {b : Nat} {o : Nat → Nat} {k j : Nat} (h : j < k) : nuM I b o k (b + 25) j = nI (o j) := by
  simp [nuM, h]
theorem shN_k (I : MI) (b : Nat) (o : Nat → Nat) (k : Nat) : shN I b o k k = I := by
  funext a j
  simp only [shN]
  rw [if_neg]
  omega
theorem shN_step (I : MI) (b : Nat) (o : Nat → Nat) (k q : Nat) (h : q < k) : up2 (shN I b o k (q + 1)) (b + 25) (q + 1) (nI (o q)) = shN I b o k q := by
  funext a j
  simp only [up2_app, shN]
  by_cases ha : a = b + 25
  · by_cases hj : j = q + 1
    · subst hj
      have hz : a = b + 25 ∧ q < q + 1 ∧ q + 1 ≤ k := ⟨ha, by omega, by omega⟩
      rw [if_pos ⟨ha, rfl⟩, if_pos hz]
      simp
    · rw [if_neg (fun z => hj z.2)]
      by_cases h1 : q + 1 < j ∧ j ≤ k
      · have hz : a = b + 25 ∧ q < j ∧ j ≤ k := ⟨ha, by omega, h1.2⟩
        rw [if_pos ⟨ha, h1⟩, if_pos hz]
      · rw [if_neg (fun z => h1 z.2), if_neg (fun z => h1 ⟨by omega, z.2.2⟩)]
  · rw [if_neg (fun z => ha z.1), if_neg (fun z => ha z.1), if_neg (fun z => ha z.1)]
theorem nuM_step (I : MI) (b : Nat) (rk : Nat → Int32) (k q : Nat) (h : insR rk (osrt rk k) (rk k) k = q) : up2 (shN (nuM I b (osrt rk k) k) b (osrt rk k) k q) (b + 25) q (nI k) = nuM I b (osrt rk (k + 1)) (k + 1) := by
  have hle := insR_le rk (osrt rk k) (rk k) k
  funext a j
  simp only [up2_app, shN, nuM, osrt, h]
  by_cases ha : a = b + 25
  · by_cases h1 : j = q
    · subst h1
      have hz : a = b + 25 ∧ j < k + 1 := ⟨ha, by omega⟩
      rw [if_pos ⟨ha, rfl⟩, if_pos hz, if_neg (by omega), if_pos rfl]
    · rw [if_neg (fun z => h1 z.2)]
      by_cases h2 : q < j ∧ j ≤ k
      · have hz : a = b + 25 ∧ j < k + 1 := ⟨ha, by omega⟩
        rw [if_pos ⟨ha, h2⟩, if_pos hz, if_neg (by omega), if_neg h1]
      · rw [if_neg (fun z => h2 z.2)]
        by_cases h3 : j < k
        · have hz : a = b + 25 ∧ j < k + 1 := ⟨ha, by omega⟩
          rw [if_pos ⟨ha, h3⟩, if_pos hz, if_pos (by omega)]
        · rw [if_neg (fun z => h3 z.2), if_neg (fun z => by omega)]
  · rw [if_neg (fun z => ha z.1), if_neg (fun z => ha z.1), if_neg (fun z => ha z.1), if_neg (fun z => ha z.1)]
def dQ (R : MR) (b : Nat) (Q : Nat → Nat) (i l : Nat) : MR := fun a t => if a = b + 24 ∧ i ≤ t ∧ t < l then some (Q (t + 1)) else R a t
theorem dQ_0 (R : MR) (b : Nat) (Q : Nat → Nat) (i : Nat) : dQ R b Q i i = R := by
  funext a j
  simp only [dQ]
  rw [if_neg]
  omega
theorem dQ_step (R : MR) (b : Nat) (Q : Nat → Nat) (i l : Nat) (h : i ≤ l) : up2 (dQ R b Q i l) (b + 24) l (some (Q (l + 1))) = dQ R b Q i (l + 1) := by
  funext a t
  simp only [up2_app, dQ]
  by_cases ha : a = b + 24
  · by_cases ht : t = l
    · subst ht
      have hz : a = b + 24 ∧ i ≤ t ∧ t < t + 1 := ⟨ha, h, by omega⟩
      rw [if_pos ⟨ha, rfl⟩, if_pos hz]
    · rw [if_neg (fun z => ht z.2)]
      by_cases h1 : i ≤ t ∧ t < l
      · have hz : a = b + 24 ∧ i ≤ t ∧ t < l + 1 := ⟨ha, h1.1, by omega⟩
        rw [if_pos ⟨ha, h1⟩, if_pos hz]
      · rw [if_neg (fun z => h1 z.2), if_neg (fun z => h1 ⟨z.2.1, by omega⟩)]
  · rw [if_neg (fun z => ha z.1), if_neg (fun z => ha z.1), if_neg (fun z => ha z.1)]
theorem dQ_other {R : MR} {b : Nat} {Q : Nat → Nat} {i l a : Nat} (h : a ≠ b + 24) (j : Nat) : dQ R b Q i l a j = R a j := by
  simp only [dQ]
  rw [if_neg (fun z => h z.1)]
theorem dQ_high {R : MR} {b : Nat} {Q : Nat → Nat} {i l a j : Nat} (h : l ≤ j) : dQ R b Q i l a j = R a j := by
  simp only [dQ]
  rw [if_neg (fun z => by omega)]
def cutF (Q : Nat → Nat) (i m : Nat) : Nat → Nat := fun j => if j < i then Q j else if j + 1 < m then Q (j + 1) else if j + 1 = m then Q i else Q j
theorem FR.dQ {R : MR} (h : FR R) {b : Nat} (hB : isB b) (Q : Nat → Nat) (i l : Nat) (hl : i ≤ l) : FR (dQ R b Q i l) := by
  obtain ⟨k, rfl⟩ : ∃ k, l = i + k := ⟨l - i, by omega⟩
  induction k with
  | zero => rw [show i + 0 = i from rfl, dQ_0]; exact h
  | succ k ih =>
    rw [show i + (k + 1) = (i + k) + 1 by omega, ← dQ_step R b Q i (i + k) (by omega)]
    exact (ih (by omega)).upd (raA_24 hB)
theorem US.cut {I : MI} {R : MR} {b m i : Nat} {Q : Nat → Nat} (h : US I R b Q m) (hi : i < m) (I' : MI) (h1 : I' (b + 23) 2 = nI (m - 1)) : US I' (up2 (dQ R b Q i (m - 1)) (b + 24) (m - 1) (some (Q i))) b (cutF Q i m) (m - 1) := by
  obtain ⟨hc, hn, hQ⟩ := h
  refine ⟨h1, by omega, fun j hj => ?_⟩
  have key : ∀ j, j < 12 → ∃ t, t < 12 ∧ cutF Q i m j = Q t ∧ ((j < i ∧ t = j) ∨ (i ≤ j ∧ j + 1 < m ∧ t = j + 1) ∨ (j + 1 = m ∧ t = i) ∨ (m ≤ j ∧ t = j)) := by
    intro j hj
    unfold cutF
    by_cases h1 : j < i
    · exact ⟨j, hj, by rw [if_pos h1], Or.inl ⟨h1, rfl⟩⟩
    · by_cases h2 : j + 1 < m
      · exact ⟨j + 1, by omega, by rw [if_neg h1, if_pos h2], Or.inr (Or.inl ⟨by omega, h2, rfl⟩)⟩
      · by_cases h3 : j + 1 = m
        · exact ⟨i, by omega, by rw [if_neg h1, if_neg h2, if_pos h3], Or.inr (Or.inr (Or.inl ⟨h3, rfl⟩))⟩
        · exact ⟨j, hj, by rw [if_neg h1, if_neg h2, if_neg h3], Or.inr (Or.inr (Or.inr ⟨by omega, rfl⟩))⟩
  obtain ⟨t, ht, e, hcs⟩ := key j hj
  refine ⟨?_, by rw [e]; exact (hQ t ht).2.1, by rw [e]; exact (hQ t ht).2.2.1, fun x hx hxe => ?_⟩
  · rw [e]
    simp only [up2_app, dQ]
    rcases hcs with ⟨z1, rfl⟩ | ⟨z1, z2, rfl⟩ | ⟨z1, rfl⟩ | ⟨z1, rfl⟩
    · rw [if_neg (fun z => by omega), if_neg (fun z => by omega)]
      exact (hQ _ ht).1
    · have hz : j < m - 1 := by omega
      rw [if_neg (fun z => by omega), if_pos ⟨trivial, z1, hz⟩]
    · have hz : j = m - 1 := by omega
      rw [if_pos ⟨trivial, hz⟩]
    · rw [if_neg (fun z => by omega), if_neg (fun z => by omega)]
      exact (hQ _ ht).1
  · obtain ⟨u, hu, e2, hcs2⟩ := key x hx
    have := (hQ t ht).2.2.2 u hu (by rw [← e2, ← e]; exact hxe)
    omega
set_option maxRecDepth 100000 in
set_option maxHeartbeats 400000 in
theorem S_sort (b m : Nat) (Q : Nat → Nat) (I : MI) (R : MR) (hB : isB b) (hFR : FR R) (hU : US I R b Q m) : Sp 2 0 0 mX6_sortByRank [.ref (b + 23)] g0 I R (Rt none g0 (nuM I b (osrt (fun r => I (Q r) 2) m) m) R) := by
  obtain ⟨hc, hn, hQ⟩ := id hU
  have hka := ka_rls hB
  have hkw := ka_rla hB
  have hkn := ka_num hB
  have hr0 : R (b + 23) 0 = some (b + 24) := (hFR.1 b hB).2.2.2.2.1
  have hr1 : R (b + 23) 1 = some (b + 25) := (hFR.1 b hB).2.2.2.2.2.1
  refine Sp.on (by decide +kernel) rfl rfl (fun J hM => ?_)
  have hJ := hM.ok
  have outer : ∀ (k j : Nat) (w : Option Value), j + k = m → J 0 0 2 [some (.ref (b + 23)), some (.int (nI j)), w] [] g0 (nuM I b (osrt (fun r => I (Q r) 2) j) j) R := by
    intro k
    induction k with
    | zero =>
      intro j w hj
      have hcI : nuM I b (osrt (fun r => I (Q r) 2) j) j (b + 23) 2 = nI m := (nuM_other (by omega) 2).trans hc
      refine q_iload_n hJ dX6_sortByRank_2 (q := 3) rfl rfl ?_
      refine q_aload_n hJ dX6_sortByRank_3 (q := 4) rfl rfl rfl ?_
      refine q_getI hJ dX6_sortByRank_4 (q := 7) rfl fl_X6_22 rfl (by assumption) hcI ?_
      refine q_icmp_ge hJ (tgt := 78) dX6_sortByRank_7 (q := 10) rfl (by decide) (fun _ => ?_) (fun c1 => absurd ((nI_leI (by omega) (by omega)).mpr (by omega)) c1)
      refine q_vret hM dX6_sortByRank_78 rfl ?_
      obtain rfl : j = m := by omega
      exact ⟨rfl, rfl, rfl, rfl⟩
    | succ k ih =>
      intro j w hj
      have hcI : nuM I b (osrt (fun r => I (Q r) 2) j) j (b + 23) 2 = nI m := (nuM_other (by omega) 2).trans hc
      have ex : ∀ (q : Nat), q ≤ j → insR (fun r => I (Q r) 2) (osrt (fun r => I (Q r) 2) j) (I (Q j) 2) j = q → J 0 0 65 [some (.ref (b + 23)), some (.int (nI j)), some (.int (nI q))] [] g0 (shN (nuM I b (osrt (fun r => I (Q r) 2) j) j) b (osrt (fun r => I (Q r) 2) j) j q) R := by
        intro q hqj hq
        refine q_aload_n hJ dX6_sortByRank_65 (q := 66) rfl rfl rfl ?_
        refine q_getR hJ dX6_sortByRank_66 (q := 69) rfl fl_X6_17 rfl (by assumption) (by assumption) rfl ?_
        refine q_iload_n hJ dX6_sortByRank_69 (q := 70) rfl rfl ?_
        refine q_iload_n hJ dX6_sortByRank_70 (q := 71) rfl rfl ?_
        refine q_iast hJ dX6_sortByRank_71 (q := 72) rfl (by assumption) (ix_nI (by omega) (by decide)) ?_
        refine q_iinc hJ dX6_sortByRank_72 (q := 75) rfl (by decide) rfl (nI_1 j) ?_
        refine q_goto hJ (tgt := 2) dX6_sortByRank_75 (by decide) ?_
        rw [nuM_step I b _ j q hq]
        exact ih (j + 1) _ (by omega)
      have inner : ∀ (q : Nat), q ≤ j → insR (fun r => I (Q r) 2) (osrt (fun r => I (Q r) 2) j) (I (Q j) 2) j = insR (fun r => I (Q r) 2) (osrt (fun r => I (Q r) 2) j) (I (Q j) 2) q → J 0 0 21 [some (.ref (b + 23)), some (.int (nI j)), some (.int (nI q))] [] g0 (shN (nuM I b (osrt (fun r => I (Q r) 2) j) j) b (osrt (fun r => I (Q r) 2) j) j q) R := by
        intro q
        induction q with
        | zero =>
          intro _ hf
          refine q_iload_n hJ dX6_sortByRank_21 (q := 22) rfl rfl ?_
          refine q_if_le hJ (tgt := 65) dX6_sortByRank_22 (q := 25) rfl (by decide) (fun _ => ?_) (fun c3 => absurd c3 (by decide))
          exact ex 0 (by omega) hf
        | succ q ihq =>
          intro hqj hf
          have holt := osrt_lt (fun r => I (Q r) 2) j q (by omega)
          have hval : shN (nuM I b (osrt (fun r => I (Q r) 2) j) j) b (osrt (fun r => I (Q r) 2) j) j (q + 1) (b + 25) q = nI (osrt (fun r => I (Q r) 2) j q) := (shN_low (by omega)).trans (nuM_in (by omega))
          have hUI : US (shN (nuM I b (osrt (fun r => I (Q r) 2) j) j) b (osrt (fun r => I (Q r) 2) j) j (q + 1)) R b Q m := hU.of (by rw [shN_other (by omega), nuM_other (by omega)])
          have hrk : ∀ r, r < m → shN (nuM I b (osrt (fun r => I (Q r) 2) j) j) b (osrt (fun r => I (Q r) 2) j) j (q + 1) (Q r) 2 = I (Q r) 2 := fun r hr => by have := hQ r (by omega); rw [shN_other (by omega), nuM_other (by omega)]
          refine q_iload_n hJ dX6_sortByRank_21 (q := 22) rfl rfl ?_
          refine q_if_le hJ (tgt := 65) dX6_sortByRank_22 (q := 25) rfl (by decide) (fun c3 => absurd c3 (nI_nle (by omega) (by omega))) (fun _ => ?_)
          refine q_aload_n hJ dX6_sortByRank_25 (q := 26) rfl rfl rfl ?_
          refine q_aload_n hJ dX6_sortByRank_26 (q := 27) rfl rfl rfl ?_
          refine q_getR hJ dX6_sortByRank_27 (q := 30) rfl fl_X6_17 rfl (by assumption) (by assumption) rfl ?_
          refine q_iload_n hJ dX6_sortByRank_30 (q := 31) rfl rfl ?_
          refine q_iconst hJ (v := 1) dX6_sortByRank_31 (q := 32) rfl (by decide) ?_
          refine q_isub hJ dX6_sortByRank_32 (q := 33) rfl ?_
          refine q_iald hJ dX6_sortByRank_33 (q := 34) rfl (by assumption) (by rw [nI_pred]; exact ix_nI (by omega) (by decide)) hval ?_
          refine q_callV hJ dX6_sortByRank_34 (q := 37) rfl (S_rankOf b m (osrt (fun r => I (Q r) 2) j q) Q _ R hB hFR hUI (by omega)) imX6_rankOf ln_X6_45 (by assumption) (by decide) rfl rfl rfl rfl (Nat.le_of_ble_eq_true rfl) (by decide) (by decide) rfl rfl (fun rv gv Iv Rv hv => ?_)
          obtain ⟨rfl, rfl, rfl, rfl⟩ := hv
          rw [hrk _ (by omega)]
          refine q_aload_n hJ dX6_sortByRank_37 (q := 38) rfl rfl rfl ?_
          refine q_iload_n hJ dX6_sortByRank_38 (q := 39) rfl rfl ?_
          refine q_callV hJ dX6_sortByRank_39 (q := 42) rfl (S_rankOf b m j Q _ R hB hFR hUI (by omega)) imX6_rankOf ln_X6_45 (by assumption) (by decide) rfl rfl rfl rfl (Nat.le_of_ble_eq_true rfl) (by decide) (by decide) rfl rfl (fun rv gv Iv Rv hv => ?_)
          obtain ⟨rfl, rfl, rfl, rfl⟩ := hv
          rw [hrk _ (by omega)]
          refine q_icmp_le hJ (tgt := 65) dX6_sortByRank_42 (q := 45) rfl (by decide) (fun c4 => ?_) (fun c4 => ?_)
          · exact ex (q + 1) (by omega) (by rw [hf, insR, if_neg (Int32.not_lt.mpr c4)])
          · refine q_aload_n hJ dX6_sortByRank_45 (q := 46) rfl rfl rfl ?_
            refine q_getR hJ dX6_sortByRank_46 (q := 49) rfl fl_X6_17 rfl (by assumption) (by assumption) rfl ?_
            refine q_iload_n hJ dX6_sortByRank_49 (q := 50) rfl rfl ?_
            refine q_aload_n hJ dX6_sortByRank_50 (q := 51) rfl rfl rfl ?_
            refine q_getR hJ dX6_sortByRank_51 (q := 54) rfl fl_X6_17 rfl (by assumption) (by assumption) rfl ?_
            refine q_iload_n hJ dX6_sortByRank_54 (q := 55) rfl rfl ?_
            refine q_iconst hJ (v := 1) dX6_sortByRank_55 (q := 56) rfl (by decide) ?_
            refine q_isub hJ dX6_sortByRank_56 (q := 57) rfl ?_
            refine q_iald hJ dX6_sortByRank_57 (q := 58) rfl (by assumption) (by rw [nI_pred]; exact ix_nI (by omega) (by decide)) hval ?_
            refine q_iast hJ dX6_sortByRank_58 (q := 59) rfl (by assumption) (ix_nI (by omega) (by decide)) ?_
            rw [shN_step _ b _ j q (by omega)]
            refine q_iinc hJ dX6_sortByRank_59 (q := 62) rfl (by decide) rfl (nI_m1 q) ?_
            refine q_goto hJ (tgt := 21) dX6_sortByRank_62 (by decide) ?_
            exact ihq (by omega) (by rw [hf, insR, if_pos (Int32.not_le.mp c4)])
      refine q_iload_n hJ dX6_sortByRank_2 (q := 3) rfl rfl ?_
      refine q_aload_n hJ dX6_sortByRank_3 (q := 4) rfl rfl rfl ?_
      refine q_getI hJ dX6_sortByRank_4 (q := 7) rfl fl_X6_22 rfl (by assumption) hcI ?_
      refine q_icmp_ge hJ (tgt := 78) dX6_sortByRank_7 (q := 10) rfl (by decide) (fun c1 => absurd ((nI_leI (by omega) (by omega)).mp c1) (by omega)) (fun _ => ?_)
      refine q_iload_n hJ dX6_sortByRank_10 (q := 11) rfl rfl ?_
      refine q_aload_n hJ dX6_sortByRank_11 (q := 12) rfl rfl rfl ?_
      refine q_getR hJ dX6_sortByRank_12 (q := 15) rfl fl_X6_17 rfl (by assumption) (by assumption) rfl ?_
      refine q_alen hJ (v := 12) dX6_sortByRank_15 (q := 16) rfl (by assumption) (by decide) (by decide) (by decide) ?_
      refine q_icmp_ge hJ (tgt := 78) dX6_sortByRank_16 (q := 19) rfl (by decide) (fun c2 => absurd (by rw [nI_12] at c2; exact (nI_leI (by decide) (by omega)).mp c2) (by omega)) (fun _ => ?_)
      refine q_iload_n hJ dX6_sortByRank_19 (q := 20) rfl rfl ?_
      refine q_istore_n hJ dX6_sortByRank_20 (q := 21) rfl (by decide) ?_
      have h0 := inner j (Nat.le_refl j) rfl
      rw [shN_k] at h0
      exact h0
  refine q_iconst hJ (v := 0) dX6_sortByRank_0 (q := 1) rfl (by decide) ?_
  refine q_istore_n hJ dX6_sortByRank_1 (q := 2) rfl (by decide) ?_
  have h0 := outer m 0 none (by omega)
  rw [nuM_0] at h0
  exact h0

set_option maxRecDepth 100000 in
set_option maxHeartbeats 400000 in
theorem S_takeSpare (b m : Nat) (Q : Nat → Nat) (I : MI) (R : MR) (hB : isB b) (hFR : FR R) (hU : US I R b Q m) (hlt : m < 12) : Sp 3 0 0 mX6_takeSpare [.ref (b + 23)] g0 I R (Rt (some (.int (nI m))) g0 (nuM (up2 I (b + 23) 2 (nI (m + 1))) b (osrt (fun r => up2 I (b + 23) 2 (nI (m + 1)) (Q r) 2) (m + 1)) (m + 1)) R) := by
  obtain ⟨hc, hn, hQ⟩ := id hU
  have hka := ka_rls hB
  have hkw := ka_rla hB
  have hkn := ka_num hB
  have hr0 : R (b + 23) 0 = some (b + 24) := (hFR.1 b hB).2.2.2.2.1
  have hr1 : R (b + 23) 1 = some (b + 25) := (hFR.1 b hB).2.2.2.2.2.1
  refine Sp.on (by decide +kernel) rfl rfl (fun J hM => ?_)
  have hJ := hM.ok
  refine q_aload_n hJ dX6_takeSpare_0 (q := 1) rfl rfl rfl ?_
  refine q_dup hJ dX6_takeSpare_1 (q := 2) rfl rfl ?_
  refine q_getI hJ dX6_takeSpare_2 (q := 5) rfl fl_X6_22 rfl (by assumption) hc ?_
  refine q_iconst hJ (v := 1) dX6_takeSpare_5 (q := 6) rfl (by decide) ?_
  refine q_iadd hJ dX6_takeSpare_6 (q := 7) rfl ?_
  refine q_putI hJ dX6_takeSpare_7 (q := 10) rfl fl_X6_22 rfl rfl (by assumption) rfl rfl ?_
  refine q_aload_n hJ dX6_takeSpare_10 (q := 11) rfl rfl rfl ?_
  rw [nI_1]
  refine q_callV hJ dX6_takeSpare_11 (q := 14) rfl (S_sort b (m + 1) Q _ R hB hFR ⟨by simp [up2_app], by omega, hQ⟩) imX6_sortByRank ln_X6_42 (by assumption) (by decide) rfl rfl rfl rfl (Nat.le_of_ble_eq_true rfl) (by decide) (by decide) rfl rfl (fun rv gv Iv Rv hv => ?_)
  obtain ⟨rfl, rfl, rfl, rfl⟩ := hv
  refine q_aload_n hJ dX6_takeSpare_14 (q := 15) rfl rfl rfl ?_
  refine q_getI hJ dX6_takeSpare_15 (q := 18) rfl fl_X6_22 rfl (by assumption) (show _ = nI (m + 1) from (nuM_other (by omega) 2).trans (by simp [up2_app])) ?_
  refine q_iconst hJ (v := 1) dX6_takeSpare_18 (q := 19) rfl (by decide) ?_
  refine q_isub hJ dX6_takeSpare_19 (q := 20) rfl ?_
  refine q_iret hM dX6_takeSpare_20 rfl rfl ?_
  exact ⟨by rw [nI_pred], rfl, rfl, rfl⟩

set_option maxRecDepth 100000 in
set_option maxHeartbeats 400000 in
theorem S_ruleDrop (b m i : Nat) (Q : Nat → Nat) (I : MI) (R : MR) (hB : isB b) (hFR : FR R) (hU : US I R b Q m) (hi : i < m) : Sp 3 0 0 mX6_drop [.ref (b + 23), .int (nI i)] g0 I R (Rt none g0 (nuM (up2 I (b + 23) 2 (nI (m - 1))) b (osrt (fun r => (up2 I (b + 23) 2 (nI (m - 1))) (cutF Q i m r) 2) (m - 1)) (m - 1)) (up2 (dQ R b Q i (m - 1)) (b + 24) (m - 1) (some (Q i)))) := by
  obtain ⟨hc, hn, hQ⟩ := id hU
  have hka := ka_rls hB
  have hkw := ka_rla hB
  have hkn := ka_num hB
  have hr0 : R (b + 23) 0 = some (b + 24) := (hFR.1 b hB).2.2.2.2.1
  have hr1 : R (b + 23) 1 = some (b + 25) := (hFR.1 b hB).2.2.2.2.2.1
  refine Sp.on (by decide +kernel) rfl rfl (fun J hM => ?_)
  have hJ := hM.ok
  have loop : ∀ (k j : Nat), j + k = m - 1 → i ≤ j → J 0 0 31 [some (.ref (b + 23)), some (.int (nI i)), some (.ref (Q i)), some (.int (nI j))] [] g0 I (dQ R b Q i j) := by
    intro k
    induction k with
    | zero =>
      intro j hj hij
      have hsr : dQ R b Q i j (b + 23) 0 = some (b + 24) := (dQ_other (by omega) 0).trans hr0
      refine q_iload_n hJ dX6_drop_31 (q := 32) rfl rfl ?_
      refine q_iconst hJ (v := 1) dX6_drop_32 (q := 33) rfl (by decide) ?_
      refine q_iadd hJ dX6_drop_33 (q := 34) rfl ?_
      refine q_aload_n hJ dX6_drop_34 (q := 35) rfl rfl rfl ?_
      refine q_getI hJ dX6_drop_35 (q := 38) rfl fl_X6_22 rfl (by assumption) hc ?_
      refine q_icmp_ge hJ (tgt := 72) dX6_drop_38 (q := 41) rfl (by decide) (fun _ => ?_) (fun c4 => absurd (by rw [nI_1]; exact (nI_leI (by omega) (by omega)).mpr (by omega)) c4)
      refine q_aload_n hJ dX6_drop_72 (q := 73) rfl rfl rfl ?_
      refine q_getR hJ dX6_drop_73 (q := 76) rfl fl_X6_11 rfl (by assumption) hsr rfl ?_
      refine q_iload_n hJ dX6_drop_76 (q := 77) rfl rfl ?_
      refine q_aload_n hJ dX6_drop_77 (q := 78) rfl rfl rfl ?_
      refine q_aast hJ dX6_drop_78 (q := 79) rfl (by assumption) (Or.inr (Or.inl ⟨rfl, ka_rul hB (hQ i (by omega)).2.1 (hQ i (by omega)).2.2.1⟩)) (ix_nI (by omega) (by decide)) ?_
      refine q_aload_n hJ dX6_drop_79 (q := 80) rfl rfl rfl ?_
      refine q_dup hJ dX6_drop_80 (q := 81) rfl rfl ?_
      obtain rfl : j = m - 1 := by omega
      refine q_getI hJ dX6_drop_81 (q := 84) rfl fl_X6_22 rfl (by assumption) hc ?_
      refine q_iconst hJ (v := 1) dX6_drop_84 (q := 85) rfl (by decide) ?_
      refine q_isub hJ dX6_drop_85 (q := 86) rfl ?_
      refine q_putI hJ dX6_drop_86 (q := 89) rfl fl_X6_22 rfl rfl (by assumption) rfl rfl ?_
      refine q_aload_n hJ dX6_drop_89 (q := 90) rfl rfl rfl ?_
      have em : nI m - 1 = nI (m - 1) := by rw [show m = (m - 1) + 1 by omega, nI_pred]; rfl
      rw [em]
      refine q_callV hJ dX6_drop_90 (q := 93) rfl (S_sort b (m - 1) (cutF Q i m) _ _ hB ((hFR.dQ hB Q i (m - 1) (by omega)).upd (raA_24 hB)) (hU.cut hi _ (by simp [up2_app]))) imX6_sortByRank ln_X6_42 (by assumption) (by decide) rfl rfl rfl rfl (Nat.le_of_ble_eq_true rfl) (by decide) (by decide) rfl rfl (fun rv gv Iv Rv hv => ?_)
      obtain ⟨rfl, rfl, rfl, rfl⟩ := hv
      refine q_vret hM dX6_drop_93 rfl ?_
      exact ⟨rfl, rfl, rfl, rfl⟩
    | succ k ih =>
      intro j hj hij
      have hsr : dQ R b Q i j (b + 23) 0 = some (b + 24) := (dQ_other (by omega) 0).trans hr0
      refine q_iload_n hJ dX6_drop_31 (q := 32) rfl rfl ?_
      refine q_iconst hJ (v := 1) dX6_drop_32 (q := 33) rfl (by decide) ?_
      refine q_iadd hJ dX6_drop_33 (q := 34) rfl ?_
      refine q_aload_n hJ dX6_drop_34 (q := 35) rfl rfl rfl ?_
      refine q_getI hJ dX6_drop_35 (q := 38) rfl fl_X6_22 rfl (by assumption) hc ?_
      refine q_icmp_ge hJ (tgt := 72) dX6_drop_38 (q := 41) rfl (by decide) (fun c4 => absurd (by rw [nI_1] at c4; exact (nI_leI (by omega) (by omega)).mp c4) (by omega)) (fun _ => ?_)
      refine q_iload_n hJ dX6_drop_41 (q := 42) rfl rfl ?_
      refine q_iconst hJ (v := 1) dX6_drop_42 (q := 43) rfl (by decide) ?_
      refine q_iadd hJ dX6_drop_43 (q := 44) rfl ?_
      refine q_aload_n hJ dX6_drop_44 (q := 45) rfl rfl rfl ?_
      refine q_getR hJ dX6_drop_45 (q := 48) rfl fl_X6_11 rfl (by assumption) hsr rfl ?_
      refine q_alen hJ (v := 12) dX6_drop_48 (q := 49) rfl (by assumption) (by decide) (by decide) (by decide) ?_
      refine q_icmp_ge hJ (tgt := 72) dX6_drop_49 (q := 52) rfl (by decide) (fun c5 => absurd (by rw [nI_12, nI_1] at c5; exact (nI_leI (by decide) (by omega)).mp c5) (by omega)) (fun _ => ?_)
      refine q_aload_n hJ dX6_drop_52 (q := 53) rfl rfl rfl ?_
      refine q_getR hJ dX6_drop_53 (q := 56) rfl fl_X6_11 rfl (by assumption) hsr rfl ?_
      refine q_iload_n hJ dX6_drop_56 (q := 57) rfl rfl ?_
      refine q_aload_n hJ dX6_drop_57 (q := 58) rfl rfl rfl ?_
      refine q_getR hJ dX6_drop_58 (q := 61) rfl fl_X6_11 rfl (by assumption) hsr rfl ?_
      refine q_iload_n hJ dX6_drop_61 (q := 62) rfl rfl ?_
      refine q_iconst hJ (v := 1) dX6_drop_62 (q := 63) rfl (by decide) ?_
      refine q_iadd hJ dX6_drop_63 (q := 64) rfl ?_
      refine q_aald hJ dX6_drop_64 (q := 65) rfl (by assumption) (by decide) (by rw [nI_1]; exact ix_nI (by omega) (by decide)) ((dQ_high (by omega)).trans (hQ (j + 1) (by omega)).1) rfl ?_
      refine q_aast hJ dX6_drop_65 (q := 66) rfl (by assumption) (Or.inr (Or.inl ⟨rfl, ka_rul hB (hQ (j + 1) (by omega)).2.1 (hQ (j + 1) (by omega)).2.2.1⟩)) (ix_nI (by omega) (by decide)) ?_
      rw [dQ_step R b Q i j (by omega)]
      refine q_iinc hJ dX6_drop_66 (q := 69) rfl (by decide) rfl (nI_1 j) ?_
      refine q_goto hJ (tgt := 31) dX6_drop_69 (by decide) ?_
      exact ih (j + 1) (by omega) (by omega)
  refine q_iload_n hJ dX6_drop_0 (q := 1) rfl rfl ?_
  refine q_if_lt hJ (tgt := 21) dX6_drop_1 (q := 4) rfl (by decide) (fun c1 => absurd c1 (nI_pos (by omega))) (fun _ => ?_)
  refine q_iload_n hJ dX6_drop_4 (q := 5) rfl rfl ?_
  refine q_aload_n hJ dX6_drop_5 (q := 6) rfl rfl rfl ?_
  refine q_getI hJ dX6_drop_6 (q := 9) rfl fl_X6_22 rfl (by assumption) hc ?_
  refine q_icmp_ge hJ (tgt := 21) dX6_drop_9 (q := 12) rfl (by decide) (fun c2 => absurd ((nI_leI (by omega) (by omega)).mp c2) (by omega)) (fun _ => ?_)
  refine q_iload_n hJ dX6_drop_12 (q := 13) rfl rfl ?_
  refine q_aload_n hJ dX6_drop_13 (q := 14) rfl rfl rfl ?_
  refine q_getR hJ dX6_drop_14 (q := 17) rfl fl_X6_11 rfl (by assumption) (by assumption) rfl ?_
  refine q_alen hJ (v := 12) dX6_drop_17 (q := 18) rfl (by assumption) (by decide) (by decide) (by decide) ?_
  refine q_icmp_lt hJ (tgt := 22) dX6_drop_18 (q := 21) rfl (by decide) (fun _ => ?_) (fun c3 => absurd (by rw [nI_12]; exact (nI_ltI (by omega) (by decide)).mpr (by omega)) c3)
  refine q_aload_n hJ dX6_drop_22 (q := 23) rfl rfl rfl ?_
  refine q_getR hJ dX6_drop_23 (q := 26) rfl fl_X6_11 rfl (by assumption) (by assumption) rfl ?_
  refine q_iload_n hJ dX6_drop_26 (q := 27) rfl rfl ?_
  refine q_aald hJ dX6_drop_27 (q := 28) rfl (by assumption) (by decide) (ix_nI (by omega) (by decide)) (hQ i (by omega)).1 rfl ?_
  refine q_astore_n hJ dX6_drop_28 (q := 29) rfl (by decide) rfl ?_
  refine q_iload_n hJ dX6_drop_29 (q := 30) rfl rfl ?_
  refine q_istore_n hJ dX6_drop_30 (q := 31) rfl (by decide) ?_
  have h0 := loop (m - 1 - i) i (by omega) (by omega)
  rw [dQ_0] at h0
  exact h0

set_option maxRecDepth 100000 in
set_option maxHeartbeats 400000 in
theorem S_rulesCopy (b c n1 n2 : Nat) (P1 P2 : Nat → Nat) (I : MI) (R : MR) (hB : isB b) (hC : isB c) (hne : b ≠ c) (hFR : FR R) (hT1 : US I R b P1 n1) (hT2 : US I R c P2 n2) (hon : ∀ j, j < n2 → I (P2 j) 10 = 0 ∨ I (P2 j) 10 = 1) : Sp 3 0 0 mX6_copyFrom [.ref (b + 23), .ref (c + 23)] g0 I R (Rt none g0 (cp0 (cpR (up2 I (b + 23) 2 (nI n2)) P1 P2 12 n2) (c + 25) (b + 25) 12) R) := by
  obtain ⟨hc1, hn1, hP1⟩ := hT1
  obtain ⟨hc2, hn2, hP2⟩ := id hT2
  have hka := ka_rls hB
  have hkw := ka_rla hB
  have hkc := ka_rls hC
  have hk3 := ka_num hB
  have hk5 := ka_num hC
  have hdis := isB_dis hB hC hne
  have hr0 : R (b + 23) 0 = some (b + 24) := (hFR.1 b hB).2.2.2.2.1
  have hr1 : R (b + 23) 1 = some (b + 25) := (hFR.1 b hB).2.2.2.2.2.1
  have hr2 : R (c + 23) 1 = some (c + 25) := (hFR.1 c hC).2.2.2.2.2.1
  have hcc : ∀ j, j ≤ n2 → cpR (up2 I (b + 23) 2 (nI n2)) P1 P2 12 j (b + 23) 2 = nI n2 := fun j hj => by
    rw [cpR_other _ _ _ _ _ _ (fun i hi z => by have := hP1 i (by omega); omega)]
    simp [up2_app]
  refine Sp.on (by decide +kernel) rfl rfl (fun J hM => ?_)
  have hJ := hM.ok
  have loop : ∀ (k j : Nat) (w1 w2 : Option Value), j + k = n2 → J 0 0 10 [some (.ref (b + 23)), some (.ref (c + 23)), some (.int (nI j)), w1, w2] [] g0 (cpR (up2 I (b + 23) 2 (nI n2)) P1 P2 12 j) R := by
    intro k
    induction k with
    | zero =>
      intro j w1 w2 hj
      have hcI : cpR (up2 I (b + 23) 2 (nI n2)) P1 P2 12 j (b + 23) 2 = nI n2 := hcc j (by omega)
      refine q_iload_n hJ dX6_copyFrom_10 (q := 11) rfl rfl ?_
      refine q_aload_n hJ dX6_copyFrom_11 (q := 12) rfl rfl rfl ?_
      refine q_getI hJ dX6_copyFrom_12 (q := 15) rfl fl_X6_22 rfl hka hcI ?_
      refine q_icmp_ge hJ (tgt := 62) dX6_copyFrom_15 (q := 18) rfl (by decide) (fun _ => ?_) (fun c1 => absurd ((nI_leI (by omega) (by omega)).mpr (by omega)) c1)
      refine q_aload_n hJ dX6_copyFrom_62 (q := 63) rfl rfl rfl ?_
      refine q_getR hJ dX6_copyFrom_63 (q := 66) rfl fl_X6_17 rfl hkc (by assumption) rfl ?_
      refine q_iconst hJ (v := 0) dX6_copyFrom_66 (q := 67) rfl (by decide) ?_
      refine q_aload_n hJ dX6_copyFrom_67 (q := 68) rfl rfl rfl ?_
      refine q_getR hJ dX6_copyFrom_68 (q := 71) rfl fl_X6_17 rfl (by assumption) (by assumption) rfl ?_
      refine q_iconst hJ (v := 0) dX6_copyFrom_71 (q := 72) rfl (by decide) ?_
      refine q_bipush hJ (v := 12) dX6_copyFrom_72 (q := 74) rfl (by decide) ?_
      refine q_copy hJ (N := 12) dX6_copyFrom_74 (q := 77) rfl ln_X6_55 aw hk5 hk3 ⟨by decide, by decide⟩ (by decide) (by decide) rfl (Nat.le_of_ble_eq_true rfl) (by decide) ?_
      refine q_vret hM dX6_copyFrom_77 rfl ?_
      obtain rfl : j = n2 := by omega
      exact ⟨rfl, rfl, rfl, rfl⟩
    | succ k ih =>
      intro j w1 w2 hj
      have hcI : cpR (up2 I (b + 23) 2 (nI n2)) P1 P2 12 j (b + 23) 2 = nI n2 := hcc j (by omega)
      have h1j := hP1 j (by omega)
      have h2j := hP2 j (by omega)
      have hk1 := ka_rul hB h1j.2.1 h1j.2.2.1
      have hk2 := ka_rul hC h2j.2.1 h2j.2.2.1
      have hTc : US (cpR (up2 I (b + 23) 2 (nI n2)) P1 P2 12 j) R c P2 n2 := hT2.of (by rw [cpR_other _ _ _ _ _ _ (fun i hi z => by have := hP1 i (by omega); omega), up2_other _ _ _ _ (by omega)])
      refine q_iload_n hJ dX6_copyFrom_10 (q := 11) rfl rfl ?_
      refine q_aload_n hJ dX6_copyFrom_11 (q := 12) rfl rfl rfl ?_
      refine q_getI hJ dX6_copyFrom_12 (q := 15) rfl fl_X6_22 rfl hka hcI ?_
      refine q_icmp_ge hJ (tgt := 62) dX6_copyFrom_15 (q := 18) rfl (by decide) (fun c1 => absurd ((nI_leI (by omega) (by omega)).mp c1) (by omega)) (fun _ => ?_)
      refine q_iload_n hJ dX6_copyFrom_18 (q := 19) rfl rfl ?_
      refine q_aload_n hJ dX6_copyFrom_19 (q := 20) rfl rfl rfl ?_
      refine q_getR hJ dX6_copyFrom_20 (q := 23) rfl fl_X6_11 rfl hka hr0 rfl ?_
      refine q_alen hJ (v := 12) dX6_copyFrom_23 (q := 24) rfl (by assumption) (by decide) (by decide) (by decide) ?_
      refine q_icmp_ge hJ (tgt := 62) dX6_copyFrom_24 (q := 27) rfl (by decide) (fun c2 => absurd (by rw [nI_12] at c2; exact (nI_leI (by decide) (by omega)).mp c2) (by omega)) (fun _ => ?_)
      refine q_aload_n hJ dX6_copyFrom_27 (q := 28) rfl rfl rfl ?_
      refine q_getR hJ dX6_copyFrom_28 (q := 31) rfl fl_X6_11 rfl hka hr0 rfl ?_
      refine q_iload_n hJ dX6_copyFrom_31 (q := 32) rfl rfl ?_
      refine q_aald hJ dX6_copyFrom_32 (q := 33) rfl (by assumption) (by decide) (ix_nI (by omega) (by decide)) h1j.1 rfl ?_
      refine q_astore_n hJ dX6_copyFrom_33 (q := 34) rfl (by decide) rfl ?_
      refine q_aload_n hJ dX6_copyFrom_34 (q := 35) rfl rfl rfl ?_
      refine q_iload_n hJ dX6_copyFrom_35 (q := 36) rfl rfl ?_
      refine q_callV hJ dX6_copyFrom_36 (q := 39) rfl (S_ruleOf c n2 P2 (nI j) _ R hC hFR hTc) imX6_ruleOf ln_X6_30 hkc (by decide) rfl rfl rfl rfl (Nat.le_of_ble_eq_true rfl) (by decide) (by decide) rfl rfl (fun rv gv Iv Rv hv => ?_)
      obtain ⟨rfl, rfl, rfl, rfl⟩ := hv
      rw [rowAtF_in12 (by omega) hn2]
      refine q_astore hJ dX6_copyFrom_39 (q := 41) rfl (by decide) rfl ?_
      refine q_aload_n hJ dX6_copyFrom_41 (q := 42) rfl rfl rfl ?_
      refine q_nullN hJ dX6_copyFrom_42 (q := 45) rfl ?_
      refine q_aload hJ dX6_copyFrom_45 (q := 47) rfl rfl rfl ?_
      refine q_nullN hJ dX6_copyFrom_47 (q := 50) rfl ?_
      refine q_aload_n hJ dX6_copyFrom_50 (q := 51) rfl rfl rfl ?_
      refine q_aload hJ dX6_copyFrom_51 (q := 53) rfl rfl rfl ?_
      refine q_callV hJ dX6_copyFrom_53 (q := 56) rfl (S_ruleCopy (P1 j) (P2 j) _ R hk1 hk2 (fun z => by omega) (by rw [cpR_other _ _ _ _ _ _ (fun i hi z => by have := hP1 i (by omega); omega), up2_other _ _ _ _ (by omega)]; exact hon j (by omega))) imX5_copyFrom ln_X6_51 hk1 (by decide) rfl rfl rfl rfl (Nat.le_of_ble_eq_true rfl) (by decide) (by decide) rfl rfl (fun rv gv Iv Rv hv => ?_)
      obtain ⟨rfl, rfl, rfl, rfl⟩ := hv
      refine q_iinc hJ dX6_copyFrom_56 (q := 59) rfl (by decide) rfl (nI_1 j) ?_
      refine q_goto hJ (tgt := 10) dX6_copyFrom_59 (by decide) ?_
      exact ih (j + 1) _ _ (by omega)
  refine q_aload_n hJ dX6_copyFrom_0 (q := 1) rfl rfl rfl ?_
  refine q_aload_n hJ dX6_copyFrom_1 (q := 2) rfl rfl rfl ?_
  refine q_getI hJ dX6_copyFrom_2 (q := 5) rfl fl_X6_22 rfl hkc hc2 ?_
  refine q_putI hJ dX6_copyFrom_5 (q := 8) rfl fl_X6_22 rfl rfl hka rfl rfl ?_
  refine q_iconst hJ (v := 0) dX6_copyFrom_8 (q := 9) rfl (by decide) ?_
  refine q_istore_n hJ dX6_copyFrom_9 (q := 10) rfl (by decide) ?_
  exact loop n2 0 none none (by omega)

