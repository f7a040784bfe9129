/-! TABLE -/
/-- a state's table as it lies: the row of place j is the cell P j; n rows -/
def TS (I : MI) (R : MR) (b : Nat) (P : Nat → Nat) (n : Nat) : Prop := I (b + 1) 1 = nI n ∧ n ≤ 20 ∧ ∀ j, j < 20 → R (b + 2) j = some (P j) ∧ b + 3 ≤ P j ∧ P j < b + 23 ∧ ∀ i, i < 20 → P i = P j → i = j
def fndF (p : Nat → Prop) [DecidablePred p] : Nat → Nat → Option Nat
  | _, 0 => none
  | j, k + 1 => if p j then some j else fndF p (j + 1) k
def rowAtF (x : Int32) (n : Nat) (P : Nat → Nat) : Option Nat := if x < 0 then none else if nI n ≤ x then none else some (P x.toNatClampNeg)
def shR (R : MR) (b : Nat) (P : Nat → Nat) (n q : Nat) : MR := fun a j => if a = b + 2 ∧ q < j ∧ j ≤ n then some (P (j - 1)) else R a j
def insP (K : Nat → Int32) (key : Int32) : Nat → Nat
  | 0 => 0
  | n + 1 => if K n < key then n + 1 else insP K key n
def dR (R : MR) (b : Nat) (P : Nat → Nat) (n i j : Nat) : MR := fun a t => if a = b + 2 ∧ i ≤ t ∧ t < j then some (if t + 1 < n then P (t + 1) else P i) else R a t
def cpR (I : MI) (P1 P2 : Nat → Nat) (w : Nat) : Nat → MI
  | 0 => I
  | j + 1 => cp0 (cpR I P1 P2 w j) (P2 j) (P1 j) w
theorem insP_le (K : Nat → Int32) (key : Int32) (n : Nat) : insP K key n ≤ n := by
  induction n with
  | zero => exact Nat.le_refl 0
  | succ n ih =>
    unfold insP
    split
    · exact Nat.le_refl _
    · omega
theorem nI_20 : (20 : Int32) = nI 20 := by decide
theorem shR_n (R : MR) (b : Nat) (P : Nat → Nat) (n : Nat) : shR R b P n n = R := by
  funext a j
  simp only [shR]
  rw [if_neg]
  omega
theorem shR_step (R : MR) (b : Nat) (P : Nat → Nat) (n q : Nat) (h : q < n) : up2 (shR R b P n (q + 1)) (b + 2) (q + 1) (some (P q)) = shR R b P n q := by
  funext a j
  simp only [up2_app, shR]
  by_cases ha : a = b + 2
  · by_cases hj : j = q + 1
    · subst hj
      rw [if_pos ⟨ha, rfl⟩, if_pos ⟨ha, by omega, by omega⟩]
      simp
    · rw [if_neg (fun z => hj z.2)]
      by_cases h1 : q + 1 < j ∧ j ≤ n
      · rw [if_pos ⟨ha, h1⟩, if_pos ⟨ha, by omega, h1.2⟩]
      · rw [if_neg (fun z => h1 z.2), if_neg (fun z => h1 ⟨by omega, z.2.2⟩)]
  · rw [if_neg (fun z => ha z.1), if_neg (fun z => ha z.1), if_neg (fun z => ha z.1)]
theorem shR_other {R : MR} {b : Nat} {P : Nat → Nat} {n q a : Nat} (h : a ≠ b + 2) (j : Nat) : shR R b P n q a j = R a j := by
  simp only [shR]
  rw [if_neg (fun z => h z.1)]
theorem shR_low {R : MR} {b : Nat} {P : Nat → Nat} {n q a j : Nat} (h : j ≤ q) : shR R b P n q a j = R a j := by
  simp only [shR]
  rw [if_neg (fun z => by omega)]
theorem dR_0 (R : MR) (b : Nat) (P : Nat → Nat) (n i : Nat) : dR R b P n i i = R := by
  funext a j
  simp only [dR]
  rw [if_neg]
  omega
theorem dR_step (R : MR) (b : Nat) (P : Nat → Nat) (n i j : Nat) (h : i ≤ j) : up2 (dR R b P n i j) (b + 2) j (some (if j + 1 < n then P (j + 1) else P i)) = dR R b P n i (j + 1) := by
  funext a t
  simp only [up2_app, dR]
  by_cases ha : a = b + 2
  · by_cases ht : t = j
    · subst ht
      have hz : a = b + 2 ∧ i ≤ t ∧ t < t + 1 := ⟨ha, h, by omega⟩
      rw [if_pos ⟨ha, rfl⟩, if_pos hz]
    · rw [if_neg (fun z => ht z.2)]
      by_cases h1 : i ≤ t ∧ t < j
      · have hz : a = b + 2 ∧ i ≤ t ∧ t < j + 1 := ⟨ha, h1.1, by omega⟩
        rw [if_pos ⟨ha, h1⟩, if_pos hz]
      · rw [if_neg (fun z => h1 z.2), if_neg (fun z => h1 ⟨z.2.1, by omega⟩)]
  · rw [if_neg (fun z => ha z.1), if_neg (fun z => ha z.1), if_neg (fun z => ha z.1)]
theorem dR_other {R : MR} {b : Nat} {P : Nat → Nat} {n i q a : Nat} (h : a ≠ b + 2) (j : Nat) : dR R b P n i q a j = R a j := by
  simp only [dR]
  rw [if_neg (fun z => h z.1)]
theorem dR_high {R : MR} {b : Nat} {P : Nat → Nat} {n i q a j : Nat} (h : q ≤ j) : dR R b P n i q a j = R a j := by
  simp only [dR]
  rw [if_neg (fun z => by omega)]
theorem cpR_other (I : MI) (P1 P2 : Nat → Nat) (w a : Nat) (j : Nat) (h : ∀ i, i < j → a ≠ P1 i) (t : Nat) : cpR I P1 P2 w j a t = I a t := by
  induction j with
  | zero => rfl
  | succ j ih =>
    show cp0 _ _ _ _ a t = _
    simp only [cp0]
    rw [if_neg (fun z => h j (by omega) z.1)]
    exact ih (fun i hi => h i (by omega))
theorem cpR_at (I : MI) (P1 P2 : Nat → Nat) (w : Nat) (j i t : Nat) (hi : i < j) (ht : t < w) (hinj : ∀ x y, x < j → y < j → P1 x = P1 y → x = y) (hdis : ∀ x y, x < j → y < j → P2 x ≠ P1 y) : cpR I P1 P2 w j (P1 i) t = I (P2 i) t := by
  induction j with
  | zero => omega
  | succ j ih =>
    show cp0 _ _ _ _ (P1 i) t = _
    simp only [cp0]
    by_cases he : i = j
    · subst he
      rw [if_pos ⟨rfl, ht⟩]
      exact cpR_other I P1 P2 w _ i (fun x hx => hdis i x (by omega) (by omega)) t
    · rw [if_neg (fun z => he (hinj i j (by omega) (by omega) z.1))]
      exact ih (by omega) (fun x y hx hy => hinj x y (by omega) (by omega)) (fun x y hx hy => hdis x y (by omega) (by omega))
theorem cpR_old (I : MI) (P1 P2 : Nat → Nat) (w j a t : Nat) (ht : w ≤ t) : cpR I P1 P2 w j a t = I a t := by
  induction j with
  | zero => rfl
  | succ j ih =>
    show cp0 _ _ _ _ a t = _
    simp only [cp0]
    rw [if_neg (fun z => by omega)]
    exact ih
set_option maxRecDepth 100000 in
set_option maxHeartbeats 400000 in
theorem S_isFull (b n : Nat) (P : Nat → Nat) (I : MI) (R : MR) (hB : isB b) (hFR : FR R) (hT : TS I R b P n) : Sp 0 0 0 mX8_isFull [.ref (b + 1)] g0 I R (Rt (some (.int (if n < 20 then 0 else 1))) g0 I R) := by
  obtain ⟨hc, hn, hP⟩ := hT
  have hka := ka_tbl hB
  have hkw := ka_rws hB
  have hr0 : R (b + 1) 0 = some (b + 2) := (hFR.1 b hB).2.2.2.1
  refine Sp.on (by decide +kernel) rfl rfl (fun J hM => ?_)
  have hJ := hM.ok
  refine q_aload_n hJ dX8_isFull_0 (q := 1) rfl rfl rfl ?_
  refine q_getI hJ dX8_isFull_1 (q := 4) rfl fl_X8_18 rfl (by assumption) hc ?_
  refine q_aload_n hJ dX8_isFull_4 (q := 5) rfl rfl rfl ?_
  refine q_getR hJ dX8_isFull_5 (q := 8) rfl fl_X8_11 rfl (by assumption) (by assumption) rfl ?_
  refine q_alen hJ (v := 20) dX8_isFull_8 (q := 9) rfl (by assumption) (by decide) (by decide) (by decide) ?_
  refine q_icmp_lt hJ (tgt := 16) dX8_isFull_9 (q := 12) rfl (by decide) (fun c1 => ?_) (fun c1 => ?_)
  · have hnn : n < 20 := (nI_ltI (a := n) (b := 20) (by omega) (by decide)).mp (by rw [← nI_20]; exact c1)
    refine q_iconst hJ (v := 0) dX8_isFull_16 (q := 17) rfl (by decide) ?_
    refine q_iret hM dX8_isFull_17 rfl (nz rfl (by decide)) ?_
    exact ⟨by simp [hnn], rfl, rfl, rfl⟩
  · have hnn : ¬ n < 20 := fun z => c1 (by rw [nI_20]; exact (nI_ltI (by omega) (by decide)).mpr z)
    refine q_iconst hJ (v := 1) dX8_isFull_12 (q := 13) rfl (by decide) ?_
    refine q_goto hJ (tgt := 17) dX8_isFull_13 (by decide) ?_
    refine q_iret hM dX8_isFull_17 rfl (nz rfl (by decide)) ?_
    exact ⟨by simp [hnn], rfl, rfl, rfl⟩

set_option maxRecDepth 100000 in
set_option maxHeartbeats 400000 in
theorem S_rowAt (b n : Nat) (P : Nat → Nat) (x : Int32) (I : MI) (R : MR) (hB : isB b) (hFR : FR R) (hT : TS I R b P n) : Sp 0 0 0 mX8_rowAt [.ref (b + 1), .int x] g0 I R (Rt (some (rr (rowAtF x n P))) g0 I R) := by
  obtain ⟨hc, hn, hP⟩ := hT
  have hka := ka_tbl hB
  have hkw := ka_rws hB
  have hr0 : R (b + 1) 0 = some (b + 2) := (hFR.1 b hB).2.2.2.1
  refine Sp.on (by decide +kernel) rfl rfl (fun J hM => ?_)
  have hJ := hM.ok
  refine q_iload_n hJ dX8_rowAt_0 (q := 1) rfl rfl ?_
  refine q_if_lt hJ (tgt := 30) dX8_rowAt_1 (q := 4) rfl (by decide) (fun c1 => ?_) (fun c1 => ?_)
  · refine q_null hJ dX8_rowAt_30 (q := 31) rfl ?_
    refine q_aret hM dX8_rowAt_31 rfl rfl ?_
    exact ⟨by simp [rowAtF, rr, *], rfl, rfl, rfl⟩
  · refine q_iload_n hJ dX8_rowAt_4 (q := 5) rfl rfl ?_
    refine q_aload_n hJ dX8_rowAt_5 (q := 6) rfl rfl rfl ?_
    refine q_getI hJ dX8_rowAt_6 (q := 9) rfl fl_X8_18 rfl (by assumption) hc ?_
    refine q_icmp_ge hJ (tgt := 30) dX8_rowAt_9 (q := 12) rfl (by decide) (fun c2 => ?_) (fun c2 => ?_)
    · refine q_null hJ dX8_rowAt_30 (q := 31) rfl ?_
      refine q_aret hM dX8_rowAt_31 rfl rfl ?_
      exact ⟨by simp [rowAtF, rr, *], rfl, rfl, rfl⟩
    · obtain ⟨j, hj, rfl⟩ := nI_of c1
      have hjn : j < n := (nI_ltI hj (by omega)).mp (Int32.not_le.mp c2)
      have hjx : ix (nI j) j 20 := ix_nI (by omega) (by decide)
      have hrow : R (b + 2) j = some (P j) := (hP j (by omega)).1
      refine q_iload_n hJ dX8_rowAt_12 (q := 13) rfl rfl ?_
      refine q_aload_n hJ dX8_rowAt_13 (q := 14) rfl rfl rfl ?_
      refine q_getR hJ dX8_rowAt_14 (q := 17) rfl fl_X8_11 rfl (by assumption) (by assumption) rfl ?_
      refine q_alen hJ (v := 20) dX8_rowAt_17 (q := 18) rfl (by assumption) (by decide) (by decide) (by decide) ?_
      refine q_icmp_ge hJ (tgt := 30) dX8_rowAt_18 (q := 21) rfl (by decide) (fun c3 => absurd (by rw [nI_20] at c3; exact (nI_leI (by decide) hj).mp c3) (by omega)) (fun _ => ?_)
      refine q_aload_n hJ dX8_rowAt_21 (q := 22) rfl rfl rfl ?_
      refine q_getR hJ dX8_rowAt_22 (q := 25) rfl fl_X8_11 rfl (by assumption) (by assumption) rfl ?_
      refine q_iload_n hJ dX8_rowAt_25 (q := 26) rfl rfl ?_
      refine q_aald hJ dX8_rowAt_26 (q := 27) rfl (by assumption) (by decide) (by assumption) (by assumption) rfl ?_
      refine q_goto hJ (tgt := 31) dX8_rowAt_27 (by decide) ?_
      refine q_aret hM dX8_rowAt_31 rfl rfl ?_
      exact ⟨by simp [rowAtF, rr, nI_pos hj, c2, nI_clamp hj], rfl, rfl, rfl⟩

set_option maxRecDepth 100000 in
set_option maxHeartbeats 400000 in
theorem S_rowOf (b n : Nat) (P : Nat → Nat) (key : Int32) (I : MI) (R : MR) (hB : isB b) (hFR : FR R) (hT : TS I R b P n) : Sp 0 0 0 mX8_rowOf [.ref (b + 1), .int key] g0 I R (Rt (some (rr ((fndF (fun j => I (P j) 0 = key) 0 n).map P))) g0 I R) := by
  obtain ⟨hc, hn, hP⟩ := hT
  have hka := ka_tbl hB
  have hkw := ka_rws hB
  have hr0 : R (b + 1) 0 = some (b + 2) := (hFR.1 b hB).2.2.2.1
  refine Sp.on (by decide +kernel) rfl rfl (fun J hM => ?_)
  have hJ := hM.ok
  have loop : ∀ (k j : Nat) (w : Option Value), j + k = n → fndF (fun j => I (P j) 0 = key) 0 n = fndF (fun j => I (P j) 0 = key) j k → J 0 0 2 [some (.ref (b + 1)), some (.int key), some (.int (nI j)), w] [] g0 I R := by
    intro k
    induction k with
    | zero =>
      intro j w hj hf
      refine q_iload_n hJ dX8_rowOf_2 (q := 3) rfl rfl ?_
      refine q_aload_n hJ dX8_rowOf_3 (q := 4) rfl rfl rfl ?_
      refine q_getI hJ dX8_rowOf_4 (q := 7) rfl fl_X8_18 rfl (by assumption) hc ?_
      refine q_icmp_ge hJ (tgt := 46) dX8_rowOf_7 (q := 10) rfl (by decide) (fun _ => ?_) (fun c1 => absurd ((nI_leI (by omega) (by omega)).mpr (by omega)) c1)
      refine q_null hJ dX8_rowOf_46 (q := 47) rfl ?_
      refine q_aret hM dX8_rowOf_47 rfl rfl ?_
      exact ⟨by rw [hf]; rfl, rfl, rfl, rfl⟩
    | succ k ih =>
      intro j w hj hf
      refine q_iload_n hJ dX8_rowOf_2 (q := 3) rfl rfl ?_
      refine q_aload_n hJ dX8_rowOf_3 (q := 4) rfl rfl rfl ?_
      refine q_getI hJ dX8_rowOf_4 (q := 7) rfl fl_X8_18 rfl (by assumption) hc ?_
      refine q_icmp_ge hJ (tgt := 46) dX8_rowOf_7 (q := 10) rfl (by decide) (fun c1 => absurd ((nI_leI (by omega) (by omega)).mp c1) (by omega)) (fun _ => ?_)
      have hjx : ix (nI j) j 20 := ix_nI (by omega) (by decide)
      have hrow : R (b + 2) j = some (P j) := (hP j (by omega)).1
      have hkr := ka_row hB (hP j (by omega)).2.1 (hP j (by omega)).2.2.1
      refine q_iload_n hJ dX8_rowOf_10 (q := 11) rfl rfl ?_
      refine q_aload_n hJ dX8_rowOf_11 (q := 12) rfl rfl rfl ?_
      refine q_getR hJ dX8_rowOf_12 (q := 15) rfl fl_X8_11 rfl (by assumption) (by assumption) rfl ?_
      refine q_alen hJ (v := 20) dX8_rowOf_15 (q := 16) rfl (by assumption) (by decide) (by decide) (by decide) ?_
      refine q_icmp_ge hJ (tgt := 46) dX8_rowOf_16 (q := 19) rfl (by decide) (fun c2 => absurd (by rw [nI_20] at c2; exact (nI_leI (by decide) (by omega)).mp c2) (by omega)) (fun _ => ?_)
      refine q_aload_n hJ dX8_rowOf_19 (q := 20) rfl rfl rfl ?_
      refine q_getR hJ dX8_rowOf_20 (q := 23) rfl fl_X8_11 rfl (by assumption) (by assumption) rfl ?_
      refine q_iload_n hJ dX8_rowOf_23 (q := 24) rfl rfl ?_
      refine q_aald hJ dX8_rowOf_24 (q := 25) rfl (by assumption) (by decide) (by assumption) (by assumption) rfl ?_
      refine q_astore_n hJ dX8_rowOf_25 (q := 26) rfl (by decide) rfl ?_
      refine q_aload_n hJ dX8_rowOf_26 (q := 27) rfl rfl rfl ?_
      refine q_nullN hJ dX8_rowOf_27 (q := 30) rfl ?_
      refine q_aload_n hJ dX8_rowOf_30 (q := 31) rfl rfl rfl ?_
      refine q_getI hJ dX8_rowOf_31 (q := 34) rfl fl_X8_22 rfl (by assumption) rfl ?_
      refine q_iload_n hJ dX8_rowOf_34 (q := 35) rfl rfl ?_
      refine q_icmp_ne hJ (tgt := 40) dX8_rowOf_35 (q := 38) rfl (by decide) (fun c3 => ?_) (fun c3 => ?_)
      · refine q_iinc hJ dX8_rowOf_40 (q := 43) rfl (by decide) rfl (nI_1 j) ?_
        refine q_goto hJ (tgt := 2) dX8_rowOf_43 (by decide) ?_
        exact ih (j + 1) _ (by omega) (by rw [hf, fndF, if_neg c3])
      · refine q_aload_n hJ dX8_rowOf_38 (q := 39) rfl rfl rfl ?_
        refine q_aret hM dX8_rowOf_39 rfl rfl ?_
        exact ⟨by rw [hf, fndF, if_pos c3]; rfl, rfl, rfl, rfl⟩
  refine q_iconst hJ (v := 0) dX8_rowOf_0 (q := 1) rfl (by decide) ?_
  refine q_istore_n hJ dX8_rowOf_1 (q := 2) rfl (by decide) ?_
  exact loop n 0 none (by omega) rfl

theorem S_rowCp (a b : Nat) (I : MI) (R : MR) (hk : KA g0 a 4 0) (hk2 : KA g0 b 4 0) : Sp 0 0 0 mX4_copyFrom [.ref a, .ref b] g0 I R (Rt none g0 (cp0 I b a 4) R) := by
  rw [← rwS_cp]
  exact S_rowCopy a b I R hk hk2
theorem cp0_other {I : MI} {x y n a : Nat} (h : a ≠ y) (t : Nat) : cp0 I x y n a t = I a t := by
  simp only [cp0]
  rw [if_neg (fun z => h z.1)]
theorem rowAtF_in {j n : Nat} {P : Nat → Nat} (h : j < n) (hn : n ≤ 20) : rowAtF (nI j) n P = some (P j) := by
  have h1 : ¬ nI j < 0 := nI_pos (by omega)
  have h2 : ¬ nI n ≤ nI j := nI_ge h (by omega)
  rw [rowAtF, if_neg h1, if_neg h2, nI_clamp (by omega)]
theorem isB_dis {b c : Nat} (h1 : isB b) (h2 : isB c) (h : b ≠ c) : b + 42 ≤ c ∨ c + 42 ≤ b := by
  unfold isB at h1 h2
  omega
theorem nI_m1 (q : Nat) : nI (q + 1) + Int32.ofInt (-1) = nI q := by
  have h : (Int32.ofInt (-1)) = -1 := by decide
  rw [h, ← Int32.sub_eq_add_neg]
  exact nI_pred q
set_option maxRecDepth 100000 in
set_option maxHeartbeats 400000 in
theorem S_take (b n x : Nat) (P : Nat → Nat) (I : MI) (R : MR) (hB : isB b) (hFR : FR R) (hT : TS I R b P n) (hlt : n < 20) (hkx : KA g0 x 4 0) (hx : x < b + 3 ∨ b + 23 ≤ x) : Sp 1 0 0 mX8_take [.ref (b + 1), .ref x] g0 I R (Rt none g0 (up2 (cp0 I x (P n) 4) (b + 1) 1 (nI (n + 1))) (up2 (shR R b P n (insP (fun j => I (P j) 0) (I x 0) n)) (b + 2) (insP (fun j => I (P j) 0) (I x 0) n) (some (P n)))) := by
  obtain ⟨hc, hn, hP⟩ := hT
  have hka := ka_tbl hB
  have hkw := ka_rws hB
  have hr0 : R (b + 1) 0 = some (b + 2) := (hFR.1 b hB).2.2.2.1
  refine Sp.on (by decide +kernel) rfl rfl (fun J hM => ?_)
  have hJ := hM.ok
  have hrn := hP n (by omega)
  have hkn := ka_row hB hrn.2.1 hrn.2.2.1
  have hxn : x ≠ P n := fun z => by omega
  have hbn : b + 1 ≠ P n := fun z => by omega
  have hc1 : cp0 I x (P n) 4 (b + 1) 1 = nI n := (cp0_other hbn 1).trans hc
  have ex : ∀ (q : Nat) (w : Option Value), q ≤ n → insP (fun j => I (P j) 0) (I x 0) n = q → J 0 0 93 [some (.ref (b + 1)), some (.ref x), some (.ref (P n)), some (.int (nI q)), w] [] g0 (cp0 I x (P n) 4) (shR R b P n q) := by
    intro q w hqn hq
    have hsr : shR R b P n q (b + 1) 0 = some (b + 2) := (shR_other (by omega) 0).trans hr0
    refine q_aload_n hJ dX8_take_93 (q := 94) rfl rfl rfl ?_
    refine q_getR hJ dX8_take_94 (q := 97) rfl fl_X8_11 rfl (by assumption) hsr rfl ?_
    refine q_iload_n hJ dX8_take_97 (q := 98) rfl rfl ?_
    refine q_aload_n hJ dX8_take_98 (q := 99) rfl rfl rfl ?_
    refine q_aast hJ dX8_take_99 (q := 100) rfl (by assumption) (Or.inl ⟨rfl, hkn⟩) (ix_nI (by omega) (by decide)) ?_
    refine q_aload_n hJ dX8_take_100 (q := 101) rfl rfl rfl ?_
    refine q_dup hJ dX8_take_101 (q := 102) rfl rfl ?_
    refine q_getI hJ dX8_take_102 (q := 105) rfl fl_X8_18 rfl (by assumption) hc1 ?_
    refine q_iconst hJ (v := 1) dX8_take_105 (q := 106) rfl (by decide) ?_
    refine q_iadd hJ dX8_take_106 (q := 107) rfl ?_
    refine q_putI hJ dX8_take_107 (q := 110) rfl fl_X8_18 rfl rfl (by assumption) rfl rfl ?_
    refine q_vret hM dX8_take_110 rfl ?_
    exact ⟨rfl, rfl, by rw [nI_1], by rw [hq]⟩
  have loop : ∀ (q : Nat) (w : Option Value), q ≤ n → insP (fun j => I (P j) 0) (I x 0) n = insP (fun j => I (P j) 0) (I x 0) q → J 0 0 45 [some (.ref (b + 1)), some (.ref x), some (.ref (P n)), some (.int (nI q)), w] [] g0 (cp0 I x (P n) 4) (shR R b P n q) := by
    intro q
    induction q with
    | zero =>
      intro w _ hf
      refine q_iload_n hJ dX8_take_45 (q := 46) rfl rfl ?_
      refine q_if_le hJ (tgt := 93) dX8_take_46 (q := 49) rfl (by decide) (fun _ => ?_) (fun c2 => absurd c2 (by decide))
      exact ex 0 w (by omega) hf
    | succ q ih =>
      intro w hq hf
      have hrq := hP q (by omega)
      have hkq := ka_row hB hrq.2.1 hrq.2.2.1
      have hqn : P q ≠ P n := fun z => by have := hrn.2.2.2 q (by omega) z; omega
      have hsr : shR R b P n (q + 1) (b + 1) 0 = some (b + 2) := (shR_other (by omega) 0).trans hr0
      refine q_iload_n hJ dX8_take_45 (q := 46) rfl rfl ?_
      refine q_if_le hJ (tgt := 93) dX8_take_46 (q := 49) rfl (by decide) (fun c2 => absurd c2 (nI_nle (by omega) (by omega))) (fun _ => ?_)
      refine q_aload_n hJ dX8_take_49 (q := 50) rfl rfl rfl ?_
      refine q_getR hJ dX8_take_50 (q := 53) rfl fl_X8_11 rfl (by assumption) hsr rfl ?_
      refine q_iload_n hJ dX8_take_53 (q := 54) rfl rfl ?_
      refine q_iconst hJ (v := 1) dX8_take_54 (q := 55) rfl (by decide) ?_
      refine q_isub hJ dX8_take_55 (q := 56) rfl ?_
      refine q_aald hJ dX8_take_56 (q := 57) rfl (by assumption) (by decide) (by rw [nI_pred]; exact ix_nI (by omega) (by decide)) ((shR_low (by omega)).trans hrq.1) rfl ?_
      refine q_astore hJ dX8_take_57 (q := 59) rfl (by decide) rfl ?_
      refine q_aload hJ dX8_take_59 (q := 61) rfl rfl rfl ?_
      refine q_nullN hJ dX8_take_61 (q := 64) rfl ?_
      refine q_aload hJ dX8_take_64 (q := 66) rfl rfl rfl ?_
      refine q_getI hJ dX8_take_66 (q := 69) rfl fl_X8_22 rfl (by assumption) (cp0_other hqn 0) ?_
      refine q_aload_n hJ dX8_take_69 (q := 70) rfl rfl rfl ?_
      refine q_getI hJ dX8_take_70 (q := 73) rfl fl_X8_22 rfl (by assumption) (cp0_other hxn 0) ?_
      refine q_icmp_ge hJ (tgt := 79) dX8_take_73 (q := 76) rfl (by decide) (fun c3 => ?_) (fun c3 => ?_)
      · refine q_aload_n hJ dX8_take_79 (q := 80) rfl rfl rfl ?_
        refine q_getR hJ dX8_take_80 (q := 83) rfl fl_X8_11 rfl (by assumption) hsr rfl ?_
        refine q_iload_n hJ dX8_take_83 (q := 84) rfl rfl ?_
        refine q_aload hJ dX8_take_84 (q := 86) rfl rfl rfl ?_
        refine q_aast hJ dX8_take_86 (q := 87) rfl (by assumption) (Or.inl ⟨rfl, hkq⟩) (ix_nI (by omega) (by decide)) ?_
        rw [shR_step R b P n q (by omega)]
        refine q_iinc hJ dX8_take_87 (q := 90) rfl (by decide) rfl (nI_m1 q) ?_
        refine q_goto hJ (tgt := 45) dX8_take_90 (by decide) ?_
        exact ih _ (by omega) (by rw [hf, insP, if_neg (Int32.not_lt.mpr c3)])
      · refine q_goto hJ (tgt := 93) dX8_take_76 (by decide) ?_
        exact ex (q + 1) _ (by omega) (by rw [hf, insP, if_pos (Int32.not_le.mp c3)])
  refine q_aload_n hJ dX8_take_0 (q := 1) rfl rfl rfl ?_
  refine q_getI hJ dX8_take_1 (q := 4) rfl fl_X8_18 rfl (by assumption) hc ?_
  refine q_if_lt hJ (tgt := 19) dX8_take_4 (q := 7) rfl (by decide) (fun c0 => absurd c0 (nI_pos (by omega))) (fun _ => ?_)
  refine q_aload_n hJ dX8_take_7 (q := 8) rfl rfl rfl ?_
  refine q_getI hJ dX8_take_8 (q := 11) rfl fl_X8_18 rfl (by assumption) hc ?_
  refine q_aload_n hJ dX8_take_11 (q := 12) rfl rfl rfl ?_
  refine q_getR hJ dX8_take_12 (q := 15) rfl fl_X8_11 rfl (by assumption) (by assumption) rfl ?_
  refine q_alen hJ (v := 20) dX8_take_15 (q := 16) rfl (by assumption) (by decide) (by decide) (by decide) ?_
  refine q_icmp_lt hJ (tgt := 20) dX8_take_16 (q := 19) rfl (by decide) (fun _ => ?_) (fun c1 => absurd (by rw [nI_20]; exact (nI_ltI (by omega) (by decide)).mpr hlt) c1)
  refine q_aload_n hJ dX8_take_20 (q := 21) rfl rfl rfl ?_
  refine q_getR hJ dX8_take_21 (q := 24) rfl fl_X8_11 rfl (by assumption) (by assumption) rfl ?_
  refine q_aload_n hJ dX8_take_24 (q := 25) rfl rfl rfl ?_
  refine q_getI hJ dX8_take_25 (q := 28) rfl fl_X8_18 rfl (by assumption) hc ?_
  refine q_aald hJ dX8_take_28 (q := 29) rfl (by assumption) (by decide) (ix_nI (by omega) (by decide)) hrn.1 rfl ?_
  refine q_astore_n hJ dX8_take_29 (q := 30) rfl (by decide) rfl ?_
  refine q_aload_n hJ dX8_take_30 (q := 31) rfl rfl rfl ?_
  refine q_nonnullN hJ (tgt := 35) dX8_take_31 (by decide) ?_
  refine q_aload_n hJ dX8_take_35 (q := 36) rfl rfl rfl ?_
  refine q_aload_n hJ dX8_take_36 (q := 37) rfl rfl rfl ?_
  refine q_callV hJ dX8_take_37 (q := 40) rfl (S_rowCp (P n) x I R hkn hkx) imX4_copyFrom ln_X8_25 (by assumption) (by decide) rfl rfl rfl rfl (Nat.le_of_ble_eq_true rfl) (by decide) (by decide) rfl rfl (fun rv gv Iv Rv hv => ?_)
  obtain ⟨rfl, rfl, rfl, rfl⟩ := hv
  refine q_aload_n hJ dX8_take_40 (q := 41) rfl rfl rfl ?_
  refine q_getI hJ dX8_take_41 (q := 44) rfl fl_X8_18 rfl (by assumption) hc1 ?_
  refine q_istore_n hJ dX8_take_44 (q := 45) rfl (by decide) ?_
  rw [← shR_n R b P n]
  exact loop n none (Nat.le_refl n) rfl

set_option maxRecDepth 100000 in
set_option maxHeartbeats 400000 in
theorem S_drop (b n i : Nat) (P : Nat → Nat) (key : Int32) (I : MI) (R : MR) (hB : isB b) (hFR : FR R) (hT : TS I R b P n) (hi : i < n) (hkey : I (P i) 0 = key) (hfst : ∀ t, t < i → ¬ I (P t) 0 = key) : Sp 0 0 0 mX8_drop [.ref (b + 1), .int key] g0 I R (Rt none g0 (up2 I (b + 1) 1 (nI (n - 1))) (dR R b P n i n)) := by
  obtain ⟨hc, hn, hP⟩ := hT
  have hka := ka_tbl hB
  have hkw := ka_rws hB
  have hr0 : R (b + 1) 0 = some (b + 2) := (hFR.1 b hB).2.2.2.1
  refine Sp.on (by decide +kernel) rfl rfl (fun J hM => ?_)
  have hJ := hM.ok
  have hin := hP i (by omega)
  have hki := ka_row hB hin.2.1 hin.2.2.1
  have loop2 : ∀ (k j : Nat) (w : Option Value), j + k = n → i < j → J 0 0 4 [some (.ref (b + 1)), some (.int key), some (.ref (P i)), some (.int (nI j)), w] [] g0 I (dR R b P n i j) := by
    intro k
    induction k with
    | zero =>
      intro j w hj hij
      refine q_iload_n hJ dX8_drop_4 (q := 5) rfl rfl ?_
      refine q_aload_n hJ dX8_drop_5 (q := 6) rfl rfl rfl ?_
      refine q_getI hJ dX8_drop_6 (q := 9) rfl fl_X8_18 rfl (by assumption) hc ?_
      refine q_icmp_ge hJ (tgt := 99) dX8_drop_9 (q := 12) rfl (by decide) (fun _ => ?_) (fun c1 => absurd ((nI_leI (by omega) (by omega)).mpr (by omega)) c1)
      refine q_aload_n hJ dX8_drop_99 (q := 100) rfl rfl rfl ?_
      refine q_nullN hJ dX8_drop_100 (q := 103) rfl ?_
      refine q_aload_n hJ dX8_drop_103 (q := 104) rfl rfl rfl ?_
      refine q_dup hJ dX8_drop_104 (q := 105) rfl rfl ?_
      refine q_getI hJ dX8_drop_105 (q := 108) rfl fl_X8_18 rfl (by assumption) hc ?_
      refine q_iconst hJ (v := 1) dX8_drop_108 (q := 109) rfl (by decide) ?_
      refine q_isub hJ dX8_drop_109 (q := 110) rfl ?_
      refine q_putI hJ dX8_drop_110 (q := 113) rfl fl_X8_18 rfl rfl (by assumption) rfl rfl ?_
      refine q_vret hM dX8_drop_113 rfl ?_
      have hj2 : j = n := by omega
      subst hj2
      exact ⟨rfl, rfl, by rw [show j = (j - 1) + 1 by omega, nI_pred]; rfl, rfl⟩
    | succ k ih =>
      intro j w hj hij
      have hrow := hP j (by omega)
      have hkr := ka_row hB hrow.2.1 hrow.2.2.1
      have hsr : dR R b P n i j (b + 1) 0 = some (b + 2) := (dR_other (by omega) 0).trans hr0
      refine q_iload_n hJ dX8_drop_4 (q := 5) rfl rfl ?_
      refine q_aload_n hJ dX8_drop_5 (q := 6) rfl rfl rfl ?_
      refine q_getI hJ dX8_drop_6 (q := 9) rfl fl_X8_18 rfl (by assumption) hc ?_
      refine q_icmp_ge hJ (tgt := 99) dX8_drop_9 (q := 12) rfl (by decide) (fun c1 => absurd ((nI_leI (by omega) (by omega)).mp c1) (by omega)) (fun _ => ?_)
      refine q_iload_n hJ dX8_drop_12 (q := 13) rfl rfl ?_
      refine q_aload_n hJ dX8_drop_13 (q := 14) rfl rfl rfl ?_
      refine q_getR hJ dX8_drop_14 (q := 17) rfl fl_X8_11 rfl (by assumption) hsr rfl ?_
      refine q_alen hJ (v := 20) dX8_drop_17 (q := 18) rfl (by assumption) (by decide) (by decide) (by decide) ?_
      refine q_icmp_ge hJ (tgt := 99) dX8_drop_18 (q := 21) rfl (by decide) (fun c2 => absurd (by rw [nI_20] at c2; exact (nI_leI (by decide) (by omega)).mp c2) (by omega)) (fun _ => ?_)
      refine q_aload_n hJ dX8_drop_21 (q := 22) rfl rfl rfl ?_
      refine q_getR hJ dX8_drop_22 (q := 25) rfl fl_X8_11 rfl (by assumption) hsr rfl ?_
      refine q_iload_n hJ dX8_drop_25 (q := 26) rfl rfl ?_
      refine q_aald hJ dX8_drop_26 (q := 27) rfl (by assumption) (by decide) (ix_nI (by omega) (by decide)) ((dR_high (by omega)).trans hrow.1) rfl ?_
      refine q_astore hJ dX8_drop_27 (q := 29) rfl (by decide) rfl ?_
      refine q_aload_n hJ dX8_drop_29 (q := 30) rfl rfl rfl ?_
      refine q_nonnullN hJ (tgt := 50) dX8_drop_30 (by decide) ?_
      refine q_aload_n hJ dX8_drop_50 (q := 51) rfl rfl rfl ?_
      refine q_nullN hJ dX8_drop_51 (q := 54) rfl ?_
      refine q_aload_n hJ dX8_drop_54 (q := 55) rfl rfl rfl ?_
      refine q_getR hJ dX8_drop_55 (q := 58) rfl fl_X8_11 rfl (by assumption) hsr rfl ?_
      refine q_iload_n hJ dX8_drop_58 (q := 59) rfl rfl ?_
      refine q_iload_n hJ dX8_drop_59 (q := 60) rfl rfl ?_
      refine q_iconst hJ (v := 1) dX8_drop_60 (q := 61) rfl (by decide) ?_
      refine q_iadd hJ dX8_drop_61 (q := 62) rfl ?_
      refine q_aload_n hJ dX8_drop_62 (q := 63) rfl rfl rfl ?_
      refine q_getI hJ dX8_drop_63 (q := 66) rfl fl_X8_18 rfl (by assumption) hc ?_
      refine q_icmp_ge hJ (tgt := 91) dX8_drop_66 (q := 69) rfl (by decide) (fun c4 => ?_) (fun c4 => ?_)
      · refine q_aload_n hJ dX8_drop_91 (q := 92) rfl rfl rfl ?_
        refine q_aast hJ dX8_drop_92 (q := 93) rfl (by assumption) (by first | exact Or.inl ⟨rfl, hki⟩ | exact Or.inl ⟨rfl, ka_row hB (hP (j + 1) (by omega)).2.1 (hP (j + 1) (by omega)).2.2.1⟩) (ix_nI (by omega) (by decide)) ?_
        refine q_iinc hJ dX8_drop_93 (q := 96) rfl (by decide) rfl (nI_1 j) ?_
        refine q_goto hJ (tgt := 4) dX8_drop_96 (by decide) ?_
        have hst := dR_step R b P n i j (by omega)
        first | rw [if_pos c4n] at hst | rw [if_neg (show ¬ j + 1 < n from fun z => absurd ((nI_leI (a := n) (b := j + 1) (by omega) (by omega)).mp (by rw [← nI_1]; exact c4)) (by omega))] at hst
        rw [hst]
        exact ih (j + 1) _ (by omega) (by omega)
      · have c4n : j + 1 < n := by rw [nI_1] at c4; exact Nat.lt_of_not_le (fun z => c4 ((nI_leI (by omega) (by omega)).mpr z))
        refine q_iload_n hJ dX8_drop_69 (q := 70) rfl rfl ?_
        refine q_iconst hJ (v := 1) dX8_drop_70 (q := 71) rfl (by decide) ?_
        refine q_iadd hJ dX8_drop_71 (q := 72) rfl ?_
        refine q_aload_n hJ dX8_drop_72 (q := 73) rfl rfl rfl ?_
        refine q_getR hJ dX8_drop_73 (q := 76) rfl fl_X8_11 rfl (by assumption) hsr rfl ?_
        refine q_alen hJ (v := 20) dX8_drop_76 (q := 77) rfl (by assumption) (by decide) (by decide) (by decide) ?_
        refine q_icmp_ge hJ (tgt := 91) dX8_drop_77 (q := 80) rfl (by decide) (fun c5 => absurd (by rw [nI_20, nI_1] at c5; exact (nI_leI (by decide) (by omega)).mp c5) (by have := c4n; omega)) (fun _ => ?_)
        refine q_aload_n hJ dX8_drop_80 (q := 81) rfl rfl rfl ?_
        refine q_getR hJ dX8_drop_81 (q := 84) rfl fl_X8_11 rfl (by assumption) hsr rfl ?_
        refine q_iload_n hJ dX8_drop_84 (q := 85) rfl rfl ?_
        refine q_iconst hJ (v := 1) dX8_drop_85 (q := 86) rfl (by decide) ?_
        refine q_iadd hJ dX8_drop_86 (q := 87) rfl ?_
        refine q_aald hJ dX8_drop_87 (q := 88) rfl (by assumption) (by decide) (by rw [nI_1]; exact ix_nI (by omega) (by decide)) ((dR_high (by omega)).trans (hP (j + 1) (by omega)).1) rfl ?_
        refine q_goto hJ (tgt := 92) dX8_drop_88 (by decide) ?_
        refine q_aast hJ dX8_drop_92 (q := 93) rfl (by assumption) (by first | exact Or.inl ⟨rfl, hki⟩ | exact Or.inl ⟨rfl, ka_row hB (hP (j + 1) (by omega)).2.1 (hP (j + 1) (by omega)).2.2.1⟩) (ix_nI (by omega) (by decide)) ?_
        refine q_iinc hJ dX8_drop_93 (q := 96) rfl (by decide) rfl (nI_1 j) ?_
        refine q_goto hJ (tgt := 4) dX8_drop_96 (by decide) ?_
        have hst := dR_step R b P n i j (by omega)
        first | rw [if_pos c4n] at hst | rw [if_neg (show ¬ j + 1 < n from fun z => absurd ((nI_leI (a := n) (b := j + 1) (by omega) (by omega)).mp (by rw [← nI_1]; exact c4)) (by omega))] at hst
        rw [hst]
        exact ih (j + 1) _ (by omega) (by omega)
  have loop1 : ∀ (k j : Nat) (w : Option Value), j + k = i → J 0 0 4 [some (.ref (b + 1)), some (.int key), some .null, some (.int (nI j)), w] [] g0 I R := by
    intro k
    induction k with
    | zero =>
      intro j w hj
      obtain rfl : i = j := by omega
      have hrow := hin
      have hkr := hki
      refine q_iload_n hJ dX8_drop_4 (q := 5) rfl rfl ?_
      refine q_aload_n hJ dX8_drop_5 (q := 6) rfl rfl rfl ?_
      refine q_getI hJ dX8_drop_6 (q := 9) rfl fl_X8_18 rfl (by assumption) hc ?_
      refine q_icmp_ge hJ (tgt := 99) dX8_drop_9 (q := 12) rfl (by decide) (fun c1 => absurd ((nI_leI (by omega) (by omega)).mp c1) (by omega)) (fun _ => ?_)
      refine q_iload_n hJ dX8_drop_12 (q := 13) rfl rfl ?_
      refine q_aload_n hJ dX8_drop_13 (q := 14) rfl rfl rfl ?_
      refine q_getR hJ dX8_drop_14 (q := 17) rfl fl_X8_11 rfl (by assumption) hr0 rfl ?_
      refine q_alen hJ (v := 20) dX8_drop_17 (q := 18) rfl (by assumption) (by decide) (by decide) (by decide) ?_
      refine q_icmp_ge hJ (tgt := 99) dX8_drop_18 (q := 21) rfl (by decide) (fun c2 => absurd (by rw [nI_20] at c2; exact (nI_leI (by decide) (by omega)).mp c2) (by omega)) (fun _ => ?_)
      refine q_aload_n hJ dX8_drop_21 (q := 22) rfl rfl rfl ?_
      refine q_getR hJ dX8_drop_22 (q := 25) rfl fl_X8_11 rfl (by assumption) hr0 rfl ?_
      refine q_iload_n hJ dX8_drop_25 (q := 26) rfl rfl ?_
      refine q_aald hJ dX8_drop_26 (q := 27) rfl (by assumption) (by decide) (ix_nI (by omega) (by decide)) hrow.1 rfl ?_
      refine q_astore hJ dX8_drop_27 (q := 29) rfl (by decide) rfl ?_
      refine q_aload_n hJ dX8_drop_29 (q := 30) rfl rfl rfl ?_
      refine q_nonnullY hJ (a := 0) dX8_drop_30 (q := 33) rfl ?_
      refine q_aload hJ dX8_drop_33 (q := 35) rfl rfl rfl ?_
      refine q_nullN hJ dX8_drop_35 (q := 38) rfl ?_
      refine q_aload hJ dX8_drop_38 (q := 40) rfl rfl rfl ?_
      refine q_getI hJ dX8_drop_40 (q := 43) rfl fl_X8_22 rfl (by assumption) rfl ?_
      refine q_iload_n hJ dX8_drop_43 (q := 44) rfl rfl ?_
      refine q_icmp_ne hJ (tgt := 50) dX8_drop_44 (q := 47) rfl (by decide) (fun c3 => absurd hkey c3) (fun _ => ?_)
      refine q_aload hJ dX8_drop_47 (q := 49) rfl rfl rfl ?_
      refine q_astore_n hJ dX8_drop_49 (q := 50) rfl (by decide) rfl ?_
      refine q_aload_n hJ dX8_drop_50 (q := 51) rfl rfl rfl ?_
      refine q_nullN hJ dX8_drop_51 (q := 54) rfl ?_
      refine q_aload_n hJ dX8_drop_54 (q := 55) rfl rfl rfl ?_
      refine q_getR hJ dX8_drop_55 (q := 58) rfl fl_X8_11 rfl (by assumption) hr0 rfl ?_
      refine q_iload_n hJ dX8_drop_58 (q := 59) rfl rfl ?_
      refine q_iload_n hJ dX8_drop_59 (q := 60) rfl rfl ?_
      refine q_iconst hJ (v := 1) dX8_drop_60 (q := 61) rfl (by decide) ?_
      refine q_iadd hJ dX8_drop_61 (q := 62) rfl ?_
      refine q_aload_n hJ dX8_drop_62 (q := 63) rfl rfl rfl ?_
      refine q_getI hJ dX8_drop_63 (q := 66) rfl fl_X8_18 rfl (by assumption) hc ?_
      refine q_icmp_ge hJ (tgt := 91) dX8_drop_66 (q := 69) rfl (by decide) (fun c4 => ?_) (fun c4 => ?_)
      · refine q_aload_n hJ dX8_drop_91 (q := 92) rfl rfl rfl ?_
        refine q_aast hJ dX8_drop_92 (q := 93) rfl (by assumption) (by first | exact Or.inl ⟨rfl, hki⟩ | exact Or.inl ⟨rfl, ka_row hB (hP (i + 1) (by omega)).2.1 (hP (i + 1) (by omega)).2.2.1⟩) (ix_nI (by omega) (by decide)) ?_
        refine q_iinc hJ dX8_drop_93 (q := 96) rfl (by decide) rfl (nI_1 i) ?_
        refine q_goto hJ (tgt := 4) dX8_drop_96 (by decide) ?_
        have hst := dR_step R b P n i i (by omega)
        rw [dR_0] at hst
        first | rw [if_pos c4n] at hst | rw [if_neg (show ¬ i + 1 < n from fun z => absurd ((nI_leI (a := n) (b := i + 1) (by omega) (by omega)).mp (by rw [← nI_1]; exact c4)) (by omega))] at hst
        rw [hst]
        exact loop2 (n - (i + 1)) (i + 1) _ (by omega) (by omega)
      · have c4n : i + 1 < n := by rw [nI_1] at c4; exact Nat.lt_of_not_le (fun z => c4 ((nI_leI (by omega) (by omega)).mpr z))
        refine q_iload_n hJ dX8_drop_69 (q := 70) rfl rfl ?_
        refine q_iconst hJ (v := 1) dX8_drop_70 (q := 71) rfl (by decide) ?_
        refine q_iadd hJ dX8_drop_71 (q := 72) rfl ?_
        refine q_aload_n hJ dX8_drop_72 (q := 73) rfl rfl rfl ?_
        refine q_getR hJ dX8_drop_73 (q := 76) rfl fl_X8_11 rfl (by assumption) hr0 rfl ?_
        refine q_alen hJ (v := 20) dX8_drop_76 (q := 77) rfl (by assumption) (by decide) (by decide) (by decide) ?_
        refine q_icmp_ge hJ (tgt := 91) dX8_drop_77 (q := 80) rfl (by decide) (fun c5 => absurd (by rw [nI_20, nI_1] at c5; exact (nI_leI (by decide) (by omega)).mp c5) (by have := c4n; omega)) (fun _ => ?_)
        refine q_aload_n hJ dX8_drop_80 (q := 81) rfl rfl rfl ?_
        refine q_getR hJ dX8_drop_81 (q := 84) rfl fl_X8_11 rfl (by assumption) hr0 rfl ?_
        refine q_iload_n hJ dX8_drop_84 (q := 85) rfl rfl ?_
        refine q_iconst hJ (v := 1) dX8_drop_85 (q := 86) rfl (by decide) ?_
        refine q_iadd hJ dX8_drop_86 (q := 87) rfl ?_
        refine q_aald hJ dX8_drop_87 (q := 88) rfl (by assumption) (by decide) (by rw [nI_1]; exact ix_nI (by omega) (by decide)) (hP (i + 1) (by omega)).1 rfl ?_
        refine q_goto hJ (tgt := 92) dX8_drop_88 (by decide) ?_
        refine q_aast hJ dX8_drop_92 (q := 93) rfl (by assumption) (by first | exact Or.inl ⟨rfl, hki⟩ | exact Or.inl ⟨rfl, ka_row hB (hP (i + 1) (by omega)).2.1 (hP (i + 1) (by omega)).2.2.1⟩) (ix_nI (by omega) (by decide)) ?_
        refine q_iinc hJ dX8_drop_93 (q := 96) rfl (by decide) rfl (nI_1 i) ?_
        refine q_goto hJ (tgt := 4) dX8_drop_96 (by decide) ?_
        have hst := dR_step R b P n i i (by omega)
        rw [dR_0] at hst
        first | rw [if_pos c4n] at hst | rw [if_neg (show ¬ i + 1 < n from fun z => absurd ((nI_leI (a := n) (b := i + 1) (by omega) (by omega)).mp (by rw [← nI_1]; exact c4)) (by omega))] at hst
        rw [hst]
        exact loop2 (n - (i + 1)) (i + 1) _ (by omega) (by omega)
    | succ k ih =>
      intro j w hj
      have hrow := hP j (by omega)
      have hkr := ka_row hB hrow.2.1 hrow.2.2.1
      refine q_iload_n hJ dX8_drop_4 (q := 5) rfl rfl ?_
      refine q_aload_n hJ dX8_drop_5 (q := 6) rfl rfl rfl ?_
      refine q_getI hJ dX8_drop_6 (q := 9) rfl fl_X8_18 rfl (by assumption) hc ?_
      refine q_icmp_ge hJ (tgt := 99) dX8_drop_9 (q := 12) rfl (by decide) (fun c1 => absurd ((nI_leI (by omega) (by omega)).mp c1) (by omega)) (fun _ => ?_)
      refine q_iload_n hJ dX8_drop_12 (q := 13) rfl rfl ?_
      refine q_aload_n hJ dX8_drop_13 (q := 14) rfl rfl rfl ?_
      refine q_getR hJ dX8_drop_14 (q := 17) rfl fl_X8_11 rfl (by assumption) hr0 rfl ?_
      refine q_alen hJ (v := 20) dX8_drop_17 (q := 18) rfl (by assumption) (by decide) (by decide) (by decide) ?_
      refine q_icmp_ge hJ (tgt := 99) dX8_drop_18 (q := 21) rfl (by decide) (fun c2 => absurd (by rw [nI_20] at c2; exact (nI_leI (by decide) (by omega)).mp c2) (by omega)) (fun _ => ?_)
      refine q_aload_n hJ dX8_drop_21 (q := 22) rfl rfl rfl ?_
      refine q_getR hJ dX8_drop_22 (q := 25) rfl fl_X8_11 rfl (by assumption) hr0 rfl ?_
      refine q_iload_n hJ dX8_drop_25 (q := 26) rfl rfl ?_
      refine q_aald hJ dX8_drop_26 (q := 27) rfl (by assumption) (by decide) (ix_nI (by omega) (by decide)) hrow.1 rfl ?_
      refine q_astore hJ dX8_drop_27 (q := 29) rfl (by decide) rfl ?_
      refine q_aload_n hJ dX8_drop_29 (q := 30) rfl rfl rfl ?_
      refine q_nonnullY hJ (a := 0) dX8_drop_30 (q := 33) rfl ?_
      refine q_aload hJ dX8_drop_33 (q := 35) rfl rfl rfl ?_
      refine q_nullN hJ dX8_drop_35 (q := 38) rfl ?_
      refine q_aload hJ dX8_drop_38 (q := 40) rfl rfl rfl ?_
      refine q_getI hJ dX8_drop_40 (q := 43) rfl fl_X8_22 rfl (by assumption) rfl ?_
      refine q_iload_n hJ dX8_drop_43 (q := 44) rfl rfl ?_
      refine q_icmp_ne hJ (tgt := 50) dX8_drop_44 (q := 47) rfl (by decide) (fun _ => ?_) (fun c3 => absurd c3 (hfst j (by omega)))
      refine q_aload_n hJ dX8_drop_50 (q := 51) rfl rfl rfl ?_
      refine q_nullY hJ (a := 0) (tgt := 93) dX8_drop_51 (by decide) ?_
      refine q_iinc hJ dX8_drop_93 (q := 96) rfl (by decide) rfl (nI_1 j) ?_
      refine q_goto hJ (tgt := 4) dX8_drop_96 (by decide) ?_
      exact ih (j + 1) _ (by omega)
  refine q_null hJ dX8_drop_0 (q := 1) rfl ?_
  refine q_astore_n hJ dX8_drop_1 (q := 2) rfl (by decide) rfl ?_
  refine q_iconst hJ (v := 0) dX8_drop_2 (q := 3) rfl (by decide) ?_
  refine q_istore_n hJ dX8_drop_3 (q := 4) rfl (by decide) ?_
  exact loop1 i 0 none (by omega)

