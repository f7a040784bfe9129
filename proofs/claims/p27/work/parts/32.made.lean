/-! CONSTRUCTORS -/
def gp (n : Nat) : Geo := (n, K0)
theorem gp1 (n : Nat) : (gp n).1 = n := rfl
theorem gp_N {n k N : Nat} (h : K0 n = (k, N)) : gN (gp n) k N = gp (n + 1) := by
  show ((n + 1 : Nat), fun b => if b = n then (k, N) else K0 b) = ((n + 1 : Nat), K0)
  congr 1
  funext b
  by_cases e : b = n
  · rw [if_pos e, e, h]
  · rw [if_neg e]
theorem K_st {b o : Nat} (hB : isB b) (ho : o < 42) : K0 (b + o) = stK o := (ka_st hB ho).2
theorem gp_st {b o k N : Nat} (hB : isB b) (ho : o < 42) (h : stK o = (k, N)) : gN (gp (b + o)) k N = gp (b + o + 1) := gp_N ((K_st hB ho).trans h)
theorem kp {n a k N : Nat} (h1 : a < n) (h2 : K0 a = (k, N)) : KA (gp n) a k N := ⟨h1, h2⟩
theorem kp_st {b o n k N : Nat} (hB : isB b) (ho : o < 42) (hn : b + o < n) (h : stK o = (k, N)) : KA (gp n) (b + o) k N := ⟨hn, (K_st hB ho).trans h⟩
theorem kp_b {b n : Nat} (hB : isB b) (hn : b < n) : KA (gp n) b 7 0 := ⟨hn, K_st (o := 0) hB (by decide)⟩
theorem stK_row {o : Nat} (h1 : 3 ≤ o) (h2 : o < 23) : stK o = (4, 0) := by
  unfold stK; rw [if_neg (by omega), if_neg (by omega), if_neg (by omega), if_pos h2]
theorem stK_rul {o : Nat} (h1 : 26 ≤ o) (h2 : o < 38) : stK o = (5, 0) := by
  unfold stK; rw [if_neg (by omega), if_neg (by omega), if_neg (by omega), if_neg (by omega), if_neg (by omega), if_neg (by omega), if_neg (by omega), if_pos h2]
theorem zI_o (I : MI) {a b : Nat} (h : b ≠ a) : zI I a b = I b := by funext j; simp [zI, h]
theorem zR_o (R : MR) {a b : Nat} (h : b ≠ a) : zR R a b = R b := by funext j; simp [zR, h]
theorem up2_self {α : Type} (f : Nat → Nat → α) (a k : Nat) (v : α) : up2 f a k v a k = v := if_pos ⟨rfl, rfl⟩
theorem up2_slot {α : Type} (f : Nat → Nat → α) (a k : Nat) (v : α) {a' k' : Nat} (h : k' ≠ k) : up2 f a k v a' k' = f a' k' := if_neg (fun z => h z.2)
set_option maxRecDepth 100000 in
set_option maxHeartbeats 400000 in
theorem S_rowNew (a : Nat) (g : Geo) (I : MI) (R : MR) : Sp 1 0 0 mX4_init [.ref a] g I R (Rt none g I R) := by
  refine Sp.on (by decide +kernel) rfl rfl (fun J hM => ?_)
  have hJ := hM.ok
  refine q_aload_n hJ dX4_init_0 (q := 1) rfl rfl (by first | rfl | exact isR_rr _) ?_
  refine q_objInit hJ dX4_init_1 (q := 4) rfl ln_X4_1 ow rfl (Nat.le_of_ble_eq_true rfl) (by decide) ?_
  refine q_vret hM dX4_init_4 rfl ?_
  exact ⟨rfl, rfl, rfl, rfl⟩

set_option maxRecDepth 100000 in
set_option maxHeartbeats 400000 in
theorem S_ruleNew (a : Nat) (g : Geo) (I : MI) (R : MR) : Sp 1 0 0 mX5_init [.ref a] g I R (Rt none g I R) := by
  refine Sp.on (by decide +kernel) rfl rfl (fun J hM => ?_)
  have hJ := hM.ok
  refine q_aload_n hJ dX5_init_0 (q := 1) rfl rfl (by first | rfl | exact isR_rr _) ?_
  refine q_objInit hJ dX5_init_1 (q := 4) rfl ln_X5_3 ow rfl (Nat.le_of_ble_eq_true rfl) (by decide) ?_
  refine q_vret hM dX5_init_4 rfl ?_
  exact ⟨rfl, rfl, rfl, rfl⟩

set_option maxRecDepth 100000 in
set_option maxHeartbeats 400000 in
theorem S_logNew (b : Nat) (hB : isB b) (I : MI) (R : MR) : Sp 1 3 180 mX1_init [.ref (b + 38)] (gp (b + 39)) I R (fun r g' I' R' => r = none ∧ g' = gp (b + 42) ∧ (∀ a, a < b + 39 → I' a = I a) ∧ (∀ a, a < b + 38 → R' a = R a) ∧ R' (b + 38) 0 = some (b + 39) ∧ R' (b + 38) 1 = some (b + 40) ∧ R' (b + 38) 2 = some (b + 41)) := by
  refine Sp.on (by decide +kernel) rfl rfl (fun J hM => ?_)
  have hJ := hM.ok
  refine q_aload_n hJ dX1_init_0 (q := 1) rfl rfl (by first | rfl | exact isR_rr _) ?_
  refine q_objInit hJ dX1_init_1 (q := 4) rfl ln_X1_3 ow rfl (Nat.le_of_ble_eq_true rfl) (by decide) ?_
  refine q_aload_n hJ dX1_init_4 (q := 5) rfl rfl (by first | rfl | exact isR_rr _) ?_
  refine q_bipush hJ (v := 60) dX1_init_5 (q := 7) rfl (by decide) ?_
  refine q_newa (t0 := 0) hJ (N := 60) (k := 13) dX1_init_7 (q := 9) rfl rfl (by decide) ac_int ⟨by decide, by decide⟩ (by decide) (by decide) rfl rfl ?_
  rw [gp_st (o := 39) hB (by decide) (by decide)]
  simp only [gp1]
  refine q_putFR hJ (x := some (b + 39)) dX1_init_9 (q := 12) rfl fl_X1_9 rfl rfl rfl rfl (kp_st (o := 38) hB (by decide) (by omega) (by decide)) rfl ?_
  refine q_aload_n hJ dX1_init_12 (q := 13) rfl rfl (by first | rfl | exact isR_rr _) ?_
  refine q_bipush hJ (v := 60) dX1_init_13 (q := 15) rfl (by decide) ?_
  refine q_newa (t0 := 0) hJ (N := 60) (k := 13) dX1_init_15 (q := 17) rfl rfl (by decide) ac_int ⟨by decide, by decide⟩ (by decide) (by decide) rfl rfl ?_
  rw [gp_st (o := 40) hB (by decide) (by decide)]
  simp only [gp1]
  refine q_putFR hJ (x := some (b + 40)) dX1_init_17 (q := 20) rfl fl_X1_15 rfl rfl rfl rfl (kp_st (o := 38) hB (by decide) (by omega) (by decide)) rfl ?_
  refine q_aload_n hJ dX1_init_20 (q := 21) rfl rfl (by first | rfl | exact isR_rr _) ?_
  refine q_bipush hJ (v := 60) dX1_init_21 (q := 23) rfl (by decide) ?_
  refine q_newa (t0 := 0) hJ (N := 60) (k := 13) dX1_init_23 (q := 25) rfl rfl (by decide) ac_int ⟨by decide, by decide⟩ (by decide) (by decide) rfl rfl ?_
  rw [gp_st (o := 41) hB (by decide) (by decide)]
  simp only [gp1]
  refine q_putFR hJ (x := some (b + 41)) dX1_init_25 (q := 28) rfl fl_X1_18 rfl rfl rfl rfl (kp_st (o := 38) hB (by decide) (by omega) (by decide)) rfl ?_
  refine q_vret hM dX1_init_28 rfl ?_
  refine ⟨rfl, rfl, fun a ha => ?_, fun a ha => ?_, ?_, ?_, ?_⟩
  · rw [zI_o _ (show a ≠ b + 41 by omega), zI_o _ (show a ≠ b + 40 by omega), zI_o _ (show a ≠ b + 39 by omega)]
  · rw [up2_other _ _ _ _ (by omega), zR_o _ (show a ≠ b + 41 by omega), up2_other _ _ _ _ (by omega), zR_o _ (show a ≠ b + 40 by omega), up2_other _ _ _ _ (by omega), zR_o _ (show a ≠ b + 39 by omega)]
  · rw [up2_slot _ _ _ _ (by decide), zR_o _ (show b + 38 ≠ b + 41 by omega), up2_slot _ _ _ _ (by decide), zR_o _ (show b + 38 ≠ b + 40 by omega), up2_self]
  · rw [up2_slot _ _ _ _ (by decide), zR_o _ (show b + 38 ≠ b + 41 by omega), up2_self]
  · rw [up2_self]

set_option maxRecDepth 100000 in
set_option maxHeartbeats 400000 in
theorem S_tabNew (b : Nat) (hB : isB b) (I : MI) (R : MR) : Sp 2 21 100 mX8_init [.ref (b + 1)] (gp (b + 2)) I R (fun r g' I' R' => r = none ∧ g' = gp (b + 23) ∧ (∀ a, a < b + 2 → I' a = I a) ∧ (∀ a, a < b + 1 → R' a = R a) ∧ R' (b + 1) 0 = some (b + 2) ∧ ∀ t, t < 20 → R' (b + 2) t = some (b + 3 + t)) := by
  refine Sp.on (by decide +kernel) rfl rfl (fun J hM => ?_)
  have hJ := hM.ok
  have loop : ∀ (m j : Nat) (I' : MI) (R' : MR), m + j = 20 → (∀ a, a < b + 2 → I' a = I a) → (∀ a, a < b + 1 → R' a = R a) → R' (b + 1) 0 = some (b + 2) → (∀ t, t < j → R' (b + 2) t = some (b + 3 + t)) → J (1 + j) (20 + 4 * j) 15 [some (.ref (b + 1)), some (.int (nI j))] [] (gp (b + 3 + j)) I' R' := by
    intro m
    induction m with
    | zero =>
      intro j I' R' hm hI hR hr0 he
      refine q_iload_n hJ dX8_init_15 (q := 16) rfl rfl ?_
      refine q_aload_n hJ dX8_init_16 (q := 17) rfl rfl (by first | rfl | exact isR_rr _) ?_
      refine q_getR hJ dX8_init_17 (q := 20) rfl fl_X8_11 rfl (kp_st (o := 1) hB (by decide) (by omega) (by decide)) hr0 rfl ?_
      refine q_alen hJ (v := 20) dX8_init_20 (q := 21) rfl (kp_st (o := 2) (k := 15) (N := 20) hB (by decide) (by omega) (by decide)) (by decide) (by decide) (by decide) ?_
      refine q_icmp_ge hJ (tgt := 43) dX8_init_21 (q := 24) rfl (by decide) (fun _ => ?_) (fun c5 => absurd ((nI_leI (a := 20) (b := j) (by decide) (by omega)).mpr (by omega)) c5)
      have ej : j = 20 := by omega
      subst ej
      refine q_vret hM dX8_init_43 rfl ?_
      exact ⟨rfl, rfl, hI, hR, hr0, he⟩
    | succ m ih =>
      intro j I' R' hm hI hR hr0 he
      refine q_iload_n hJ dX8_init_15 (q := 16) rfl rfl ?_
      refine q_aload_n hJ dX8_init_16 (q := 17) rfl rfl (by first | rfl | exact isR_rr _) ?_
      refine q_getR hJ dX8_init_17 (q := 20) rfl fl_X8_11 rfl (kp_st (o := 1) hB (by decide) (by omega) (by decide)) hr0 rfl ?_
      refine q_alen hJ (v := 20) dX8_init_20 (q := 21) rfl (kp_st (o := 2) (k := 15) (N := 20) hB (by decide) (by omega) (by decide)) (by decide) (by decide) (by decide) ?_
      refine q_icmp_ge hJ (tgt := 43) dX8_init_21 (q := 24) rfl (by decide) (fun c5 => absurd ((nI_leI (a := 20) (b := j) (by decide) (by omega)).mp c5) (by omega)) (fun _ => ?_)
      refine q_aload_n hJ dX8_init_24 (q := 25) rfl rfl (by first | rfl | exact isR_rr _) ?_
      refine q_getR hJ dX8_init_25 (q := 28) rfl fl_X8_11 rfl (kp_st (o := 1) hB (by decide) (by omega) (by decide)) hr0 rfl ?_
      refine q_iload_n hJ dX8_init_28 (q := 29) rfl rfl ?_
      refine q_new hJ (ci := 4) dX8_init_29 (q := 32) rfl (by decide) cl_X8_9 nw_X4 ⟨(by show 1 + j + 1 ≤ 21; omega), (by show 20 + 4 * j + 4 ≤ 100; omega)⟩ rfl rfl ?_
      rw [gp_N (show K0 (b + 3 + j) = (4, 0) from by rw [show b + 3 + j = b + (3 + j) by omega, K_st hB (by omega)]; exact stK_row (by omega) (by omega))]
      simp only [gp1]
      refine q_dup hJ dX8_init_32 (q := 33) rfl rfl ?_
      refine q_callIN hJ dX8_init_33 (q := 36) rfl (S_rowNew (b + 3 + j) _ _ _) imX4_init (by decide +kernel) rfl rfl rfl (Nat.le_of_ble_eq_true rfl) (by decide) ⟨(by show 1 + j + 1 + 0 ≤ 21; omega), (by show 20 + 4 * j + 4 + 0 ≤ 100; omega)⟩ rfl rfl (fun rv gv Iv Rv hv => ?_)
      obtain ⟨rfl, rfl, rfl, rfl⟩ := hv
      refine q_aast hJ dX8_init_36 (q := 37) rfl (kp_st (o := 2) (k := 15) (N := 20) hB (by decide) (by omega) (by decide)) (Or.inl ⟨rfl, kp (by omega) (by rw [show b + 3 + j = b + (3 + j) by omega, K_st hB (by omega)]; exact stK_row (by omega) (by omega))⟩) (ix_nI (by omega) (by decide)) ?_
      refine q_iinc hJ dX8_init_37 (q := 40) rfl (by decide) rfl (nI_1 j) ?_
      refine q_goto hJ (tgt := 15) dX8_init_40 (by decide) ?_
      refine ih (j + 1) _ _ (by omega) (fun a ha => ?_) (fun a ha => ?_) ?_ (fun t ht => ?_)
      · rw [zI_o _ (show a ≠ b + 3 + j by omega)]; exact hI a ha
      · rw [up2_other _ _ _ _ (by omega), zR_o _ (show a ≠ b + 3 + j by omega)]; exact hR a ha
      · rw [up2_other _ _ _ _ (by omega), zR_o _ (show b + 1 ≠ b + 3 + j by omega)]; exact hr0
      · by_cases e : t = j
        · rw [e, up2_self]
        · rw [up2_slot _ _ _ _ e, zR_o _ (show b + 2 ≠ b + 3 + j by omega)]; exact he t (by omega)
  refine q_aload_n hJ dX8_init_0 (q := 1) rfl rfl (by first | rfl | exact isR_rr _) ?_
  refine q_objInit hJ dX8_init_1 (q := 4) rfl ln_X8_3 ow rfl (Nat.le_of_ble_eq_true rfl) (by decide) ?_
  refine q_aload_n hJ dX8_init_4 (q := 5) rfl rfl (by first | rfl | exact isR_rr _) ?_
  refine q_bipush hJ (v := 20) dX8_init_5 (q := 7) rfl (by decide) ?_
  refine q_anew hJ (N := 20) (k := 15) dX8_init_7 (q := 10) rfl cl_X8_9 (by decide +kernel) (by decide +kernel) ⟨by decide, by decide⟩ (by decide) (by decide) rfl rfl ?_
  rw [gp_st (o := 2) hB (by decide) (by decide)]
  simp only [gp1]
  refine q_putFR hJ (x := some (b + 2)) dX8_init_10 (q := 13) rfl fl_X8_11 rfl rfl rfl rfl (kp_st (o := 1) hB (by decide) (by omega) (by decide)) rfl ?_
  refine q_iconst hJ (v := 0) dX8_init_13 (q := 14) rfl (by decide) ?_
  refine q_istore_n hJ dX8_init_14 (q := 15) rfl (by decide) ?_
  refine loop 20 0 _ _ rfl (fun a ha => ?_) (fun a ha => ?_) (up2_self _ _ _ _) (fun t ht => absurd ht (by omega))
  · rw [zI_o _ (show a ≠ b + 2 by omega)]
  · rw [up2_other _ _ _ _ (by omega), zR_o _ (show a ≠ b + 2 by omega)]

set_option maxRecDepth 100000 in
set_option maxHeartbeats 400000 in
theorem S_rlsNew (b : Nat) (hB : isB b) (I : MI) (R : MR) : Sp 2 14 168 mX6_init [.ref (b + 23)] (gp (b + 24)) I R (fun r g' I' R' => r = none ∧ g' = gp (b + 38) ∧ (∀ a, a < b + 24 → I' a = I a) ∧ (∀ a, a < b + 23 → R' a = R a) ∧ R' (b + 23) 0 = some (b + 24) ∧ R' (b + 23) 1 = some (b + 25) ∧ ∀ t, t < 12 → R' (b + 24) t = some (b + 26 + t)) := by
  refine Sp.on (by decide +kernel) rfl rfl (fun J hM => ?_)
  have hJ := hM.ok
  have loop : ∀ (m j : Nat) (I' : MI) (R' : MR), m + j = 12 → (∀ a, a < b + 24 → I' a = I a) → (∀ a, a < b + 23 → R' a = R a) → R' (b + 23) 0 = some (b + 24) → R' (b + 23) 1 = some (b + 25) → (∀ t, t < j → R' (b + 24) t = some (b + 26 + t)) → J (2 + j) (24 + 12 * j) 23 [some (.ref (b + 23)), some (.int (nI j))] [] (gp (b + 26 + j)) I' R' := by
    intro m
    induction m with
    | zero =>
      intro j I' R' hm hI hR hr0 hr1 he
      refine q_iload_n hJ dX6_init_23 (q := 24) rfl rfl ?_
      refine q_aload_n hJ dX6_init_24 (q := 25) rfl rfl (by first | rfl | exact isR_rr _) ?_
      refine q_getR hJ dX6_init_25 (q := 28) rfl fl_X6_11 rfl (kp_st (o := 23) hB (by decide) (by omega) (by decide)) hr0 rfl ?_
      refine q_alen hJ (v := 12) dX6_init_28 (q := 29) rfl (kp_st (o := 24) (k := 16) (N := 12) hB (by decide) (by omega) (by decide)) (by decide) (by decide) (by decide) ?_
      refine q_icmp_ge hJ (tgt := 51) dX6_init_29 (q := 32) rfl (by decide) (fun _ => ?_) (fun c5 => absurd ((nI_leI (a := 12) (b := j) (by decide) (by omega)).mpr (by omega)) c5)
      have ej : j = 12 := by omega
      subst ej
      refine q_vret hM dX6_init_51 rfl ?_
      exact ⟨rfl, rfl, hI, hR, hr0, hr1, he⟩
    | succ m ih =>
      intro j I' R' hm hI hR hr0 hr1 he
      refine q_iload_n hJ dX6_init_23 (q := 24) rfl rfl ?_
      refine q_aload_n hJ dX6_init_24 (q := 25) rfl rfl (by first | rfl | exact isR_rr _) ?_
      refine q_getR hJ dX6_init_25 (q := 28) rfl fl_X6_11 rfl (kp_st (o := 23) hB (by decide) (by omega) (by decide)) hr0 rfl ?_
      refine q_alen hJ (v := 12) dX6_init_28 (q := 29) rfl (kp_st (o := 24) (k := 16) (N := 12) hB (by decide) (by omega) (by decide)) (by decide) (by decide) (by decide) ?_
      refine q_icmp_ge hJ (tgt := 51) dX6_init_29 (q := 32) rfl (by decide) (fun c5 => absurd ((nI_leI (a := 12) (b := j) (by decide) (by omega)).mp c5) (by omega)) (fun _ => ?_)
      refine q_aload_n hJ dX6_init_32 (q := 33) rfl rfl (by first | rfl | exact isR_rr _) ?_
      refine q_getR hJ dX6_init_33 (q := 36) rfl fl_X6_11 rfl (kp_st (o := 23) hB (by decide) (by omega) (by decide)) hr0 rfl ?_
      refine q_iload_n hJ dX6_init_36 (q := 37) rfl rfl ?_
      refine q_new hJ (ci := 5) dX6_init_37 (q := 40) rfl (by decide) cl_X6_9 nw_X5 ⟨(by show 2 + j + 1 ≤ 14; omega), (by show 24 + 12 * j + 12 ≤ 168; omega)⟩ rfl rfl ?_
      rw [gp_N (show K0 (b + 26 + j) = (5, 0) from by rw [show b + 26 + j = b + (26 + j) by omega, K_st hB (by omega)]; exact stK_rul (by omega) (by omega))]
      simp only [gp1]
      refine q_dup hJ dX6_init_40 (q := 41) rfl rfl ?_
      refine q_callIN hJ dX6_init_41 (q := 44) rfl (S_ruleNew (b + 26 + j) _ _ _) imX5_init (by decide +kernel) rfl rfl rfl (Nat.le_of_ble_eq_true rfl) (by decide) ⟨(by show 2 + j + 1 + 0 ≤ 14; omega), (by show 24 + 12 * j + 12 + 0 ≤ 168; omega)⟩ rfl rfl (fun rv gv Iv Rv hv => ?_)
      obtain ⟨rfl, rfl, rfl, rfl⟩ := hv
      refine q_aast hJ dX6_init_44 (q := 45) rfl (kp_st (o := 24) (k := 16) (N := 12) hB (by decide) (by omega) (by decide)) (Or.inr <| Or.inl ⟨rfl, kp (by omega) (by rw [show b + 26 + j = b + (26 + j) by omega, K_st hB (by omega)]; exact stK_rul (by omega) (by omega))⟩) (ix_nI (by omega) (by decide)) ?_
      refine q_iinc hJ dX6_init_45 (q := 48) rfl (by decide) rfl (nI_1 j) ?_
      refine q_goto hJ (tgt := 23) dX6_init_48 (by decide) ?_
      refine ih (j + 1) _ _ (by omega) (fun a ha => ?_) (fun a ha => ?_) ?_ ?_ (fun t ht => ?_)
      · rw [zI_o _ (show a ≠ b + 26 + j by omega)]; exact hI a ha
      · rw [up2_other _ _ _ _ (by omega), zR_o _ (show a ≠ b + 26 + j by omega)]; exact hR a ha
      · rw [up2_other _ _ _ _ (by omega), zR_o _ (show b + 23 ≠ b + 26 + j by omega)]; exact hr0
      · rw [up2_other _ _ _ _ (by omega), zR_o _ (show b + 23 ≠ b + 26 + j by omega)]; exact hr1
      · by_cases e : t = j
        · rw [e, up2_self]
        · rw [up2_slot _ _ _ _ e, zR_o _ (show b + 24 ≠ b + 26 + j by omega)]; exact he t (by omega)
  refine q_aload_n hJ dX6_init_0 (q := 1) rfl rfl (by first | rfl | exact isR_rr _) ?_
  refine q_objInit hJ dX6_init_1 (q := 4) rfl ln_X6_3 ow rfl (Nat.le_of_ble_eq_true rfl) (by decide) ?_
  refine q_aload_n hJ dX6_init_4 (q := 5) rfl rfl (by first | rfl | exact isR_rr _) ?_
  refine q_bipush hJ (v := 12) dX6_init_5 (q := 7) rfl (by decide) ?_
  refine q_anew hJ (N := 12) (k := 16) dX6_init_7 (q := 10) rfl cl_X6_9 (by decide +kernel) (by decide +kernel) ⟨by decide, by decide⟩ (by decide) (by decide) rfl rfl ?_
  rw [gp_st (o := 24) hB (by decide) (by decide)]
  simp only [gp1]
  refine q_putFR hJ (x := some (b + 24)) dX6_init_10 (q := 13) rfl fl_X6_11 rfl rfl rfl rfl (kp_st (o := 23) hB (by decide) (by omega) (by decide)) rfl ?_
  refine q_aload_n hJ dX6_init_13 (q := 14) rfl rfl (by first | rfl | exact isR_rr _) ?_
  refine q_bipush hJ (v := 12) dX6_init_14 (q := 16) rfl (by decide) ?_
  refine q_newa (t0 := 0) hJ (N := 12) (k := 13) dX6_init_16 (q := 18) rfl rfl (by decide) ac_int ⟨by decide, by decide⟩ (by decide) (by decide) rfl rfl ?_
  rw [gp_st (o := 25) hB (by decide) (by decide)]
  simp only [gp1]
  refine q_putFR hJ (x := some (b + 25)) dX6_init_18 (q := 21) rfl fl_X6_17 rfl rfl rfl rfl (kp_st (o := 23) hB (by decide) (by omega) (by decide)) rfl ?_
  refine q_iconst hJ (v := 0) dX6_init_21 (q := 22) rfl (by decide) ?_
  refine q_istore_n hJ dX6_init_22 (q := 23) rfl (by decide) ?_
  refine loop 12 0 _ _ rfl (fun a ha => ?_) (fun a ha => ?_) ?_ (up2_self _ _ _ _) (fun t ht => absurd ht (by omega))
  · rw [zI_o _ (show a ≠ b + 25 by omega), zI_o _ (show a ≠ b + 24 by omega)]
  · rw [up2_other _ _ _ _ (by omega), zR_o _ (show a ≠ b + 25 by omega), up2_other _ _ _ _ (by omega), zR_o _ (show a ≠ b + 24 by omega)]
  · rw [up2_slot _ _ _ _ (by decide), zR_o _ (show b + 23 ≠ b + 25 by omega), up2_self]

def St0 (I : MI) (R : MR) (b : Nat) : Prop := SR R b ∧ I b 3 = 4 ∧ (∀ j, j ≠ 3 → I b j = 0) ∧ I (b + 1) 1 = 0 ∧ (∀ t, t < 20 → R (b + 2) t = some (b + 3 + t)) ∧ I (b + 23) 2 = 0 ∧ (∀ t, t < 12 → R (b + 24) t = some (b + 26 + t)) ∧ I (b + 38) 3 = 0
def NwP (b n : Nat) (I : MI) (R : MR) (X : MI → MR → Prop) : Po := fun r g' I' R' => r = none ∧ g' = gp n ∧ (∀ a, a < b → I' a = I a) ∧ (∀ a, a < b → R' a = R a) ∧ X I' R'
def A0 : AS := (fun _ _ => 0, 0, fun _ _ => 0, 0, fun i => if i = 0 then 4 else 0, fun _ _ => 0, 0)
theorem St0.cs {I : MI} {R : MR} {b : Nat} (h : St0 I R b) : CS I R b A0 := by
  obtain ⟨h1, h2, h3, h4, h5, h6, h7, h8⟩ := h
  refine ⟨fun i hi => ?_, ⟨fun j => b + 3 + j, ⟨h4, Nat.zero_le _, fun j hj => ⟨h5 j hj, Nat.le_add_right _ _, (show b + 3 + j < b + 23 by omega), fun i hi e => by have : b + 3 + i = b + 3 + j := e; omega⟩⟩, fun j hj => absurd hj (Nat.not_lt_zero _)⟩, ⟨fun j => b + 26 + j, ⟨h6, Nat.zero_le _, fun j hj => ⟨h7 j hj, Nat.le_add_right _ _, (show b + 26 + j < b + 38 by omega), fun i hi e => by have : b + 26 + i = b + 26 + j := e; omega⟩⟩, fun j hj => absurd hj (Nat.not_lt_zero _), fun j hj => absurd hj (Nat.not_lt_zero _)⟩, h8, Nat.zero_le _, fun i hi => absurd hi (Nat.not_lt_zero _)⟩
  show I b (3 + i) = if i = 0 then 4 else 0
  by_cases e : i = 0
  · rw [e]; exact h2
  · rw [if_neg e]; exact h3 _ (by omega)
theorem St0.agr {I I' : MI} {R R' : MR} {b : Nat} (h : St0 I R b) (h1 : ∀ a, b ≤ a → a < b + 42 → I' a = I a) (h2 : ∀ a, b ≤ a → a < b + 42 → R' a = R a) : St0 I' R' b := by
  unfold St0 SR at *
  rw [h1 b (by omega) (by omega), h1 (b + 1) (by omega) (by omega), h1 (b + 23) (by omega) (by omega), h1 (b + 38) (by omega) (by omega), h2 b (by omega) (by omega), h2 (b + 1) (by omega) (by omega), h2 (b + 2) (by omega) (by omega), h2 (b + 23) (by omega) (by omega), h2 (b + 24) (by omega) (by omega), h2 (b + 38) (by omega) (by omega)]
  exact h
set_option maxRecDepth 100000 in
set_option maxHeartbeats 400000 in
theorem S_staNew (b : Nat) (hB : isB b) (I : MI) (R : MR) (hb : I b = fun _ => 0) : Sp 4 41 457 mX7_init [.ref b] (gp (b + 1)) I R (NwP b (b + 42) I R (fun I' R' => St0 I' R' b)) := by
  refine Sp.on (by decide +kernel) rfl rfl (fun J hM => ?_)
  have hJ := hM.ok
  refine q_aload_n hJ dX7_init_0 (q := 1) rfl rfl (by first | rfl | exact isR_rr _) ?_
  refine q_objInit hJ dX7_init_1 (q := 4) rfl ln_X7_3 ow rfl (Nat.le_of_ble_eq_true rfl) (by decide) ?_
  refine q_aload_n hJ dX7_init_4 (q := 5) rfl rfl (by first | rfl | exact isR_rr _) ?_
  refine q_new hJ (ci := 8) dX7_init_5 (q := 8) rfl (by decide) cl_X7_9 nw_X8 (by decide) rfl rfl ?_
  rw [gp_st (o := 1) hB (by decide) (by decide)]
  simp only [gp1]
  refine q_dup hJ dX7_init_8 (q := 9) rfl rfl ?_
  refine q_callI hJ dX7_init_9 (q := 12) rfl (S_tabNew b hB _ _) imX8_init ln_X7_11 rfl rfl rfl (Nat.le_of_ble_eq_true rfl) (by decide) (by decide) rfl rfl (fun rv gv Iv Rv hv => ?_)
  obtain ⟨rfl, rfl, hI1, hR1, ht1, ht2⟩ := hv
  generalize Iv = I1 at *
  generalize Rv = R1 at *
  refine q_putFR hJ (x := some (b + 1)) dX7_init_12 (q := 15) rfl fl_X7_12 rfl rfl rfl rfl (kp_b hB (by omega)) rfl ?_
  refine q_aload_n hJ dX7_init_15 (q := 16) rfl rfl (by first | rfl | exact isR_rr _) ?_
  refine q_new hJ (ci := 6) dX7_init_16 (q := 19) rfl (by decide) cl_X7_18 nw_X6 (by decide) rfl rfl ?_
  rw [gp_st (o := 23) hB (by decide) (by decide)]
  simp only [gp1]
  refine q_dup hJ dX7_init_19 (q := 20) rfl rfl ?_
  refine q_callI hJ dX7_init_20 (q := 23) rfl (S_rlsNew b hB _ _) imX6_init ln_X7_20 rfl rfl rfl (Nat.le_of_ble_eq_true rfl) (by decide) (by decide) rfl rfl (fun rv gv Iv Rv hv => ?_)
  obtain ⟨rfl, rfl, hI2, hR2, hr1, hr2, hr3⟩ := hv
  generalize Iv = I2 at *
  generalize Rv = R2 at *
  refine q_putFR hJ (x := some (b + 23)) dX7_init_23 (q := 26) rfl fl_X7_21 rfl rfl rfl rfl (kp_b hB (by omega)) rfl ?_
  refine q_aload_n hJ dX7_init_26 (q := 27) rfl rfl (by first | rfl | exact isR_rr _) ?_
  refine q_new hJ (ci := 1) dX7_init_27 (q := 30) rfl (by decide) cl_X7_25 nw_X1 (by decide) rfl rfl ?_
  rw [gp_st (o := 38) hB (by decide) (by decide)]
  simp only [gp1]
  refine q_dup hJ dX7_init_30 (q := 31) rfl rfl ?_
  refine q_callIN hJ dX7_init_31 (q := 34) rfl (S_logNew b hB _ _) imX1_init (by decide +kernel) rfl rfl rfl (Nat.le_of_ble_eq_true rfl) (by decide) (by decide) rfl rfl (fun rv gv Iv Rv hv => ?_)
  obtain ⟨rfl, rfl, hI3, hR3, hl1, hl2, hl3⟩ := hv
  generalize Iv = I3 at *
  generalize Rv = R3 at *
  refine q_putFR hJ (x := some (b + 38)) dX7_init_34 (q := 37) rfl fl_X7_28 rfl rfl rfl rfl (kp_b hB (by omega)) rfl ?_
  refine q_aload_n hJ dX7_init_37 (q := 38) rfl rfl (by first | rfl | exact isR_rr _) ?_
  refine q_iconst hJ (v := 4) dX7_init_38 (q := 39) rfl (by decide) ?_
  refine q_putI hJ dX7_init_39 (q := 42) rfl fl_X7_32 rfl rfl (kp_b hB (by omega)) rfl rfl ?_
  refine q_vret hM dX7_init_42 rfl ?_
  refine ⟨rfl, rfl, fun a ha => ?_, fun a ha => ?_, ⟨?_, ?_, ?_, ?_, ?_, ?_, ?_, ?_, ?_⟩, ?_, fun j hj => ?_, ?_, fun t ht => ?_, ?_, fun t ht => ?_, ?_⟩
  · rw [up2_other _ _ _ _ (show a ≠ b by omega)]; rw [hI3 (a) (by omega), zI_o _ (show a ≠ b + 38 by omega), hI2 (a) (by omega), zI_o _ (show a ≠ b + 23 by omega), hI1 (a) (by omega), zI_o _ (show a ≠ b + 1 by omega)]
  · rw [up2_other _ _ _ _ (show a ≠ b by omega), hR3 (a) (by omega), zR_o _ (show a ≠ b + 38 by omega), up2_other _ _ _ _ (show a ≠ b by omega), hR2 (a) (by omega), zR_o _ (show a ≠ b + 23 by omega), up2_other _ _ _ _ (show a ≠ b by omega), hR1 (a) (by omega), zR_o _ (show a ≠ b + 1 by omega)]
  · rw [up2_slot _ _ _ _ (by decide), hR3 b (by omega), zR_o _ (show b ≠ b + 38 by omega), up2_slot _ _ _ _ (by decide), hR2 b (by omega), zR_o _ (show b ≠ b + 23 by omega), up2_self]
  · rw [up2_slot _ _ _ _ (by decide), hR3 b (by omega), zR_o _ (show b ≠ b + 38 by omega), up2_self]
  · rw [up2_self]
  · rw [up2_other _ _ _ _ (show b + 1 ≠ b by omega), hR3 (b + 1) (by omega), zR_o _ (show b + 1 ≠ b + 38 by omega), up2_other _ _ _ _ (show b + 1 ≠ b by omega), hR2 (b + 1) (by omega), zR_o _ (show b + 1 ≠ b + 23 by omega), up2_other _ _ _ _ (show b + 1 ≠ b by omega)]; exact ht1
  · rw [up2_other _ _ _ _ (show b + 23 ≠ b by omega), hR3 (b + 23) (by omega), zR_o _ (show b + 23 ≠ b + 38 by omega), up2_other _ _ _ _ (show b + 23 ≠ b by omega)]; exact hr1
  · rw [up2_other _ _ _ _ (show b + 23 ≠ b by omega), hR3 (b + 23) (by omega), zR_o _ (show b + 23 ≠ b + 38 by omega), up2_other _ _ _ _ (show b + 23 ≠ b by omega)]; exact hr2
  · rw [up2_other _ _ _ _ (show b + 38 ≠ b by omega)]; exact hl1
  · rw [up2_other _ _ _ _ (show b + 38 ≠ b by omega)]; exact hl2
  · rw [up2_other _ _ _ _ (show b + 38 ≠ b by omega)]; exact hl3
  · rw [up2_self]
  · rw [up2_slot _ _ _ _ hj]; rw [hI3 (b) (by omega), zI_o _ (show b ≠ b + 38 by omega), hI2 (b) (by omega), zI_o _ (show b ≠ b + 23 by omega), hI1 (b) (by omega), zI_o _ (show b ≠ b + 1 by omega)]; rw [hb]
  · rw [up2_other _ _ _ _ (show b + 1 ≠ b by omega)]; rw [hI3 (b + 1) (by omega), zI_o _ (show b + 1 ≠ b + 38 by omega), hI2 (b + 1) (by omega), zI_o _ (show b + 1 ≠ b + 23 by omega), hI1 (b + 1) (by omega)]; rw [zI_self]
  · rw [up2_other _ _ _ _ (show b + 2 ≠ b by omega), hR3 (b + 2) (by omega), zR_o _ (show b + 2 ≠ b + 38 by omega), up2_other _ _ _ _ (show b + 2 ≠ b by omega), hR2 (b + 2) (by omega), zR_o _ (show b + 2 ≠ b + 23 by omega), up2_other _ _ _ _ (show b + 2 ≠ b by omega)]; exact ht2 t ht
  · rw [up2_other _ _ _ _ (show b + 23 ≠ b by omega), hI3 (b + 23) (by omega), zI_o _ (show b + 23 ≠ b + 38 by omega), hI2 (b + 23) (by omega), zI_self]
  · rw [up2_other _ _ _ _ (show b + 24 ≠ b by omega), hR3 (b + 24) (by omega), zR_o _ (show b + 24 ≠ b + 38 by omega), up2_other _ _ _ _ (show b + 24 ≠ b by omega)]; exact hr3 t ht
  · rw [up2_other _ _ _ _ (show b + 38 ≠ b by omega), hI3 (b + 38) (by omega), zI_self]

set_option maxRecDepth 100000 in
set_option maxHeartbeats 400000 in
theorem S_lvlNew (a : Nat) (v : Int32) (x : Option Nat) (hA : K0 a = (3, 0)) (hK : K0 (a + 1) = (4, 0)) (I : MI) (R : MR) : Sp 2 1 4 mX3_init [.ref a, .int v, rr x] (gp (a + 1)) I R (Rt none (gp (a + 2)) (up2 (zI I (a + 1)) a 0 v) (up2 (up2 (zR R (a + 1)) a 2 (some (a + 1))) a 1 x)) := by
  refine Sp.on (by decide +kernel) (by cases x <;> rfl) rfl (fun J hM => ?_)
  have hJ := hM.ok
  refine q_aload_n hJ dX3_init_0 (q := 1) rfl rfl (by first | rfl | exact isR_rr _) ?_
  refine q_objInit hJ dX3_init_1 (q := 4) rfl ln_X3_1 ow rfl (Nat.le_of_ble_eq_true rfl) (by decide) ?_
  refine q_aload_n hJ dX3_init_4 (q := 5) rfl rfl (by first | rfl | exact isR_rr _) ?_
  refine q_new hJ (ci := 4) dX3_init_5 (q := 8) rfl (by decide) cl_X3_7 nw_X4 (by decide) rfl rfl ?_
  rw [gp_N hK]
  simp only [gp1]
  refine q_dup hJ dX3_init_8 (q := 9) rfl rfl ?_
  refine q_callIN hJ dX3_init_9 (q := 12) rfl (S_rowNew (a + 1) _ _ _) imX4_init (by decide +kernel) (by cases x <;> rfl) rfl rfl (Nat.le_of_ble_eq_true rfl) (by decide) (by decide) rfl rfl (fun rv gv Iv Rv hv => ?_)
  obtain ⟨rfl, rfl, rfl, rfl⟩ := hv
  refine q_putFR hJ (x := some (a + 1)) dX3_init_12 (q := 15) rfl fl_X3_10 rfl rfl rfl rfl (kp (by omega) hA) rfl ?_
  refine q_aload_n hJ dX3_init_15 (q := 16) rfl rfl (by first | rfl | exact isR_rr _) ?_
  refine q_iload_n hJ dX3_init_16 (q := 17) rfl rfl ?_
  refine q_putFI hJ dX3_init_17 (q := 20) rfl fl_X3_16 rfl rfl rfl rfl (kp (by omega) hA) rfl rfl ?_
  refine q_aload_n hJ dX3_init_20 (q := 21) rfl rfl (by first | rfl | exact isR_rr _) ?_
  refine q_aload_n hJ dX3_init_21 (q := 22) rfl rfl (by first | rfl | exact isR_rr _) ?_
  refine q_putFR hJ (x := x) dX3_init_22 (q := 25) rfl fl_X3_20 rfl rfl rfl rfl (kp (by omega) hA) rfl ?_
  refine q_vret hM dX3_init_25 rfl ?_
  exact ⟨rfl, rfl, rfl, rfl⟩

set_option maxRecDepth 100000 in
set_option maxHeartbeats 400000 in
theorem S_txtNew  (I : MI) (R : MR) : Sp 1 1 80 mX9_init [.ref 315] (gp 316) I R (NwP 315 317 I R (fun I' R' => R' 315 0 = some 316 ∧ I' 315 = I 315)) := by
  refine Sp.on (by decide +kernel) rfl rfl (fun J hM => ?_)
  have hJ := hM.ok
  refine q_aload_n hJ dX9_init_0 (q := 1) rfl rfl (by first | rfl | exact isR_rr _) ?_
  refine q_objInit hJ dX9_init_1 (q := 4) rfl ln_X9_3 ow rfl (Nat.le_of_ble_eq_true rfl) (by decide) ?_
  refine q_aload_n hJ dX9_init_4 (q := 5) rfl rfl (by first | rfl | exact isR_rr _) ?_
  refine q_bipush hJ (v := 80) dX9_init_5 (q := 7) rfl (by decide) ?_
  refine q_newa (t0 := 0) hJ (N := 80) (k := 12) dX9_init_7 (q := 9) rfl rfl (by decide) ac_char ⟨by decide, by decide⟩ (by decide) (by decide) rfl rfl ?_
  rw [gp_N (n := 316) rfl]
  simp only [gp1]
  refine q_putFR hJ (x := some 316) dX9_init_9 (q := 12) rfl fl_X9_9 rfl rfl rfl rfl (kp (by decide) rfl) rfl ?_
  refine q_vret hM dX9_init_12 rfl ?_
  refine ⟨rfl, rfl, fun a ha => ?_, fun a ha => ?_, ?_, ?_⟩
  · rw [zI_o _ (show a ≠ 316 by omega)]
  · rw [up2_other _ _ _ _ (by omega), zR_o _ (show a ≠ 316 by omega)]
  · rw [up2_self]
  · rw [zI_o _ (by decide)]

