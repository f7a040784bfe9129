/-! ROW AND RULE, and the ranges -/
def inR (x lo hi : Int32) : Int32 := if x < lo then 0 else if hi < x then 0 else 1
def rowF (i : Nat → Int32) (f : Int32) : Int32 := if f = 0 then i 1 else if f = 1 then i 2 else if f = 2 then i 3 else i 0
def rwS (I : MI) (a : Nat) (k z o t : Int32) : MI := up2 (up2 (up2 (up2 I a 0 k) a 1 z) a 2 o) a 3 t
def rwC (I : MI) (a : Nat) (f x : Int32) : MI := if f = 0 then up2 I a 1 x else if f = 1 then up2 I a 2 x else up2 I a 3 x
set_option maxRecDepth 100000 in
set_option maxHeartbeats 400000 in
theorem S_within (x lo hi : Int32) (I : MI) (R : MR) : Sp 0 0 0 mX10_within [.int x, .int lo, .int hi] g0 I R (Rt (some (.int (inR x lo hi))) g0 I R) := by
  refine Sp.on (by decide +kernel) rfl rfl (fun J hM => ?_)
  have hJ := hM.ok
  refine q_iload_n hJ dX10_within_0 (q := 1) rfl rfl ?_
  refine q_iload_n hJ dX10_within_1 (q := 2) rfl rfl ?_
  refine q_icmp_lt hJ (tgt := 14) dX10_within_2 (q := 5) rfl (by decide) (fun c1 => ?_) (fun c1 => ?_)
  · refine q_iconst hJ (v := 0) dX10_within_14 (q := 15) rfl (by decide) ?_
    refine q_iret hM dX10_within_15 rfl (by (first | decide | assumption)) ?_
    exact ⟨by simp [inR, *], rfl, rfl, rfl⟩
  · refine q_iload_n hJ dX10_within_5 (q := 6) rfl rfl ?_
    refine q_iload_n hJ dX10_within_6 (q := 7) rfl rfl ?_
    refine q_icmp_gt hJ (tgt := 14) dX10_within_7 (q := 10) rfl (by decide) (fun c2 => ?_) (fun c2 => ?_)
    · refine q_iconst hJ (v := 0) dX10_within_14 (q := 15) rfl (by decide) ?_
      refine q_iret hM dX10_within_15 rfl (by (first | decide | assumption)) ?_
      exact ⟨by simp [inR, *], rfl, rfl, rfl⟩
    · refine q_iconst hJ (v := 1) dX10_within_10 (q := 11) rfl (by decide) ?_
      refine q_goto hJ (tgt := 15) dX10_within_11 (by decide) ?_
      refine q_iret hM dX10_within_15 rfl (by (first | decide | assumption)) ?_
      exact ⟨by simp [inR, *], rfl, rfl, rfl⟩

theorem inR_01 (x lo hi : Int32) : inR x lo hi = 0 ∨ inR x lo hi = 1 := by
  unfold inR
  split
  · exact Or.inl rfl
  · split
    · exact Or.inl rfl
    · exact Or.inr rfl
theorem nz {ty : FieldType} {x : Int32} (ht : ty = .boolean) (h : x = 0 ∨ x = 1) : narrow ty (.int x) = .int x := by
  subst ht
  rcases h with rfl | rfl <;> decide
set_option maxRecDepth 100000 in
set_option maxHeartbeats 400000 in
theorem S_isReport (x : Int32) (I : MI) (R : MR) : Sp 1 0 0 mX10_isReport [.int x] g0 I R (Rt (some (.int (inR x (0) (4)))) g0 I R) := by
  refine Sp.on (by decide +kernel) rfl rfl (fun J hM => ?_)
  have hJ := hM.ok
  refine q_iload_n hJ dX10_isReport_0 (q := 1) rfl rfl ?_
  refine q_iconst hJ (v := 0) dX10_isReport_1 (q := 2) rfl (by decide) ?_
  refine q_iconst hJ (v := 4) dX10_isReport_2 (q := 3) rfl (by decide) ?_
  refine q_callS hJ dX10_isReport_3 (q := 6) rfl (S_within x (0) (4) I R) imX10_within ln_X10_47 rfl rfl rfl (Nat.le_of_ble_eq_true rfl) (by decide) (by decide) rfl rfl (fun rv gv Iv Rv hv => ?_)
  obtain ⟨rfl, rfl, rfl, rfl⟩ := hv
  refine q_iret hM dX10_isReport_6 rfl (nz rfl (inR_01 _ _ _)) ?_
  exact ⟨rfl, rfl, rfl, rfl⟩

set_option maxRecDepth 100000 in
set_option maxHeartbeats 400000 in
theorem S_isEvent (x : Int32) (I : MI) (R : MR) : Sp 1 0 0 mX10_isEvent [.int x] g0 I R (Rt (some (.int (inR x (0) (2)))) g0 I R) := by
  refine Sp.on (by decide +kernel) rfl rfl (fun J hM => ?_)
  have hJ := hM.ok
  refine q_iload_n hJ dX10_isEvent_0 (q := 1) rfl rfl ?_
  refine q_iconst hJ (v := 0) dX10_isEvent_1 (q := 2) rfl (by decide) ?_
  refine q_iconst hJ (v := 2) dX10_isEvent_2 (q := 3) rfl (by decide) ?_
  refine q_callS hJ dX10_isEvent_3 (q := 6) rfl (S_within x (0) (2) I R) imX10_within ln_X10_47 rfl rfl rfl (Nat.le_of_ble_eq_true rfl) (by decide) (by decide) rfl rfl (fun rv gv Iv Rv hv => ?_)
  obtain ⟨rfl, rfl, rfl, rfl⟩ := hv
  refine q_iret hM dX10_isEvent_6 rfl (nz rfl (inR_01 _ _ _)) ?_
  exact ⟨rfl, rfl, rfl, rfl⟩

set_option maxRecDepth 100000 in
set_option maxHeartbeats 400000 in
theorem S_isMoment (x : Int32) (I : MI) (R : MR) : Sp 1 0 0 mX10_isMoment [.int x] g0 I R (Rt (some (.int (inR x (0) (1)))) g0 I R) := by
  refine Sp.on (by decide +kernel) rfl rfl (fun J hM => ?_)
  have hJ := hM.ok
  refine q_iload_n hJ dX10_isMoment_0 (q := 1) rfl rfl ?_
  refine q_iconst hJ (v := 0) dX10_isMoment_1 (q := 2) rfl (by decide) ?_
  refine q_iconst hJ (v := 1) dX10_isMoment_2 (q := 3) rfl (by decide) ?_
  refine q_callS hJ dX10_isMoment_3 (q := 6) rfl (S_within x (0) (1) I R) imX10_within ln_X10_47 rfl rfl rfl (Nat.le_of_ble_eq_true rfl) (by decide) (by decide) rfl rfl (fun rv gv Iv Rv hv => ?_)
  obtain ⟨rfl, rfl, rfl, rfl⟩ := hv
  refine q_iret hM dX10_isMoment_6 rfl (nz rfl (inR_01 _ _ _)) ?_
  exact ⟨rfl, rfl, rfl, rfl⟩

set_option maxRecDepth 100000 in
set_option maxHeartbeats 400000 in
theorem S_isValue (x : Int32) (I : MI) (R : MR) : Sp 1 0 0 mX10_isValue [.int x] g0 I R (Rt (some (.int (inR x (-999) (999)))) g0 I R) := by
  refine Sp.on (by decide +kernel) rfl rfl (fun J hM => ?_)
  have hJ := hM.ok
  refine q_iload_n hJ dX10_isValue_0 (q := 1) rfl rfl ?_
  refine q_sipush hJ (v := (-999)) dX10_isValue_1 (q := 4) rfl (by decide) ?_
  refine q_sipush hJ (v := 999) dX10_isValue_4 (q := 7) rfl (by decide) ?_
  refine q_callS hJ dX10_isValue_7 (q := 10) rfl (S_within x (-999) (999) I R) imX10_within ln_X10_47 rfl rfl rfl (Nat.le_of_ble_eq_true rfl) (by decide) (by decide) rfl rfl (fun rv gv Iv Rv hv => ?_)
  obtain ⟨rfl, rfl, rfl, rfl⟩ := hv
  refine q_iret hM dX10_isValue_10 rfl (nz rfl (inR_01 _ _ _)) ?_
  exact ⟨rfl, rfl, rfl, rfl⟩

set_option maxRecDepth 100000 in
set_option maxHeartbeats 400000 in
theorem S_valueOf (a : Nat) (f : Int32) (I : MI) (R : MR) (hk : KA g0 a 4 0) : Sp 0 0 0 mX4_valueOf [.ref a, .int f] g0 I R (Rt (some (.int (rowF (I a) f))) g0 I R) := by
  refine Sp.on (by decide +kernel) rfl rfl (fun J hM => ?_)
  have hJ := hM.ok
  refine q_iload_n hJ dX4_valueOf_0 (q := 1) rfl rfl ?_
  by_cases k1_0 : f = 0
  · refine q_tswIn hJ (off := 27) (tgt := 28) dX4_valueOf_1 (by rw [k1_0]; decide) (by rw [k1_0]; decide) (by rw [k1_0]; decide) (by decide) ?_
    refine q_aload_n hJ dX4_valueOf_28 (q := 29) rfl rfl rfl ?_
    refine q_getI hJ dX4_valueOf_29 (q := 32) rfl fl_X4_13 rfl (by assumption) rfl ?_
    refine q_iret hM dX4_valueOf_32 rfl rfl ?_
    exact ⟨by simp [rowF, *], rfl, rfl, rfl⟩
  by_cases k1_1 : f = 1
  · refine q_tswIn hJ (off := 32) (tgt := 33) dX4_valueOf_1 (by rw [k1_1]; decide) (by rw [k1_1]; decide) (by rw [k1_1]; decide) (by decide) ?_
    refine q_aload_n hJ dX4_valueOf_33 (q := 34) rfl rfl rfl ?_
    refine q_getI hJ dX4_valueOf_34 (q := 37) rfl fl_X4_16 rfl (by assumption) rfl ?_
    refine q_iret hM dX4_valueOf_37 rfl rfl ?_
    exact ⟨by simp [rowF, *], rfl, rfl, rfl⟩
  by_cases k1_2 : f = 2
  · refine q_tswIn hJ (off := 37) (tgt := 38) dX4_valueOf_1 (by rw [k1_2]; decide) (by rw [k1_2]; decide) (by rw [k1_2]; decide) (by decide) ?_
    refine q_aload_n hJ dX4_valueOf_38 (q := 39) rfl rfl rfl ?_
    refine q_getI hJ dX4_valueOf_39 (q := 42) rfl fl_X4_19 rfl (by assumption) rfl ?_
    refine q_iret hM dX4_valueOf_42 rfl rfl ?_
    exact ⟨by simp [rowF, *], rfl, rfl, rfl⟩
  refine q_tswOut hJ (tgt := 43) dX4_valueOf_1 (tsw_out3 k1_0 k1_1 k1_2) (by decide) ?_
  refine q_aload_n hJ dX4_valueOf_43 (q := 44) rfl rfl rfl ?_
  refine q_getI hJ dX4_valueOf_44 (q := 47) rfl fl_X4_7 rfl (by assumption) rfl ?_
  refine q_iret hM dX4_valueOf_47 rfl rfl ?_
  exact ⟨by simp [rowF, *], rfl, rfl, rfl⟩

set_option maxRecDepth 100000 in
set_option maxHeartbeats 400000 in
theorem S_fill (a : Nat) (k z o t : Int32) (I : MI) (R : MR) (hk : KA g0 a 4 0) : Sp 0 0 0 mX4_fill [.ref a, .int k, .int z, .int o, .int t] g0 I R (Rt none g0 (rwS I a k z o t) R) := by
  refine Sp.on (by decide +kernel) rfl rfl (fun J hM => ?_)
  have hJ := hM.ok
  refine q_aload_n hJ dX4_fill_0 (q := 1) rfl rfl rfl ?_
  refine q_iload_n hJ dX4_fill_1 (q := 2) rfl rfl ?_
  refine q_putI hJ dX4_fill_2 (q := 5) rfl fl_X4_7 rfl rfl (by assumption) rfl rfl ?_
  refine q_aload_n hJ dX4_fill_5 (q := 6) rfl rfl rfl ?_
  refine q_iload_n hJ dX4_fill_6 (q := 7) rfl rfl ?_
  refine q_putI hJ dX4_fill_7 (q := 10) rfl fl_X4_13 rfl rfl (by assumption) rfl rfl ?_
  refine q_aload_n hJ dX4_fill_10 (q := 11) rfl rfl rfl ?_
  refine q_iload_n hJ dX4_fill_11 (q := 12) rfl rfl ?_
  refine q_putI hJ dX4_fill_12 (q := 15) rfl fl_X4_16 rfl rfl (by assumption) rfl rfl ?_
  refine q_aload_n hJ dX4_fill_15 (q := 16) rfl rfl rfl ?_
  refine q_iload hJ dX4_fill_16 (q := 18) rfl rfl ?_
  refine q_putI hJ dX4_fill_18 (q := 21) rfl fl_X4_19 rfl rfl (by assumption) rfl rfl ?_
  refine q_vret hM dX4_fill_21 rfl ?_
  exact ⟨rfl, rfl, rfl, rfl⟩

set_option maxRecDepth 100000 in
set_option maxHeartbeats 400000 in
theorem S_rowCopy (a b : Nat) (I : MI) (R : MR) (hk : KA g0 a 4 0) (hk2 : KA g0 b 4 0) : Sp 0 0 0 mX4_copyFrom [.ref a, .ref b] g0 I R (Rt none g0 (rwS I a (I b 0) (I b 1) (I b 2) (I b 3)) R) := by
  refine Sp.on (by decide +kernel) rfl rfl (fun J hM => ?_)
  have hJ := hM.ok
  refine q_aload_n hJ dX4_copyFrom_0 (q := 1) rfl rfl rfl ?_
  refine q_aload_n hJ dX4_copyFrom_1 (q := 2) rfl rfl rfl ?_
  refine q_getI hJ dX4_copyFrom_2 (q := 5) rfl fl_X4_7 rfl (by assumption) rfl ?_
  refine q_putI hJ dX4_copyFrom_5 (q := 8) rfl fl_X4_7 rfl rfl (by assumption) rfl rfl ?_
  refine q_aload_n hJ dX4_copyFrom_8 (q := 9) rfl rfl rfl ?_
  refine q_aload_n hJ dX4_copyFrom_9 (q := 10) rfl rfl rfl ?_
  refine q_getI hJ dX4_copyFrom_10 (q := 13) rfl fl_X4_13 rfl (by assumption) rfl ?_
  refine q_putI hJ dX4_copyFrom_13 (q := 16) rfl fl_X4_13 rfl rfl (by assumption) rfl rfl ?_
  refine q_aload_n hJ dX4_copyFrom_16 (q := 17) rfl rfl rfl ?_
  refine q_aload_n hJ dX4_copyFrom_17 (q := 18) rfl rfl rfl ?_
  refine q_getI hJ dX4_copyFrom_18 (q := 21) rfl fl_X4_16 rfl (by assumption) rfl ?_
  refine q_putI hJ dX4_copyFrom_21 (q := 24) rfl fl_X4_16 rfl rfl (by assumption) rfl rfl ?_
  refine q_aload_n hJ dX4_copyFrom_24 (q := 25) rfl rfl rfl ?_
  refine q_aload_n hJ dX4_copyFrom_25 (q := 26) rfl rfl rfl ?_
  refine q_getI hJ dX4_copyFrom_26 (q := 29) rfl fl_X4_19 rfl (by assumption) rfl ?_
  refine q_putI hJ dX4_copyFrom_29 (q := 32) rfl fl_X4_19 rfl rfl (by assumption) rfl rfl ?_
  refine q_vret hM dX4_copyFrom_32 rfl ?_
  exact ⟨rfl, rfl, by simp [rwS, up2_app], rfl⟩

set_option maxRecDepth 100000 in
set_option maxHeartbeats 400000 in
theorem S_change (a : Nat) (f x : Int32) (I : MI) (R : MR) (hk : KA g0 a 4 0) : Sp 0 0 0 mX4_change [.ref a, .int f, .int x] g0 I R (Rt none g0 (rwC I a f x) R) := by
  refine Sp.on (by decide +kernel) rfl rfl (fun J hM => ?_)
  have hJ := hM.ok
  refine q_iload_n hJ dX4_change_0 (q := 1) rfl rfl ?_
  by_cases k1_0 : f = 0
  · refine q_lsw hJ (off := 27) (tgt := 28) dX4_change_1 (by decide) (by rw [k1_0]; decide) (by decide) ?_
    refine q_aload_n hJ dX4_change_28 (q := 29) rfl rfl rfl ?_
    refine q_iload_n hJ dX4_change_29 (q := 30) rfl rfl ?_
    refine q_putI hJ dX4_change_30 (q := 33) rfl fl_X4_13 rfl rfl (by assumption) rfl rfl ?_
    refine q_goto hJ (tgt := 49) dX4_change_33 (by decide) ?_
    refine q_vret hM dX4_change_49 rfl ?_
    exact ⟨rfl, rfl, by simp [rwC, *], rfl⟩
  by_cases k1_1 : f = 1
  · refine q_lsw hJ (off := 35) (tgt := 36) dX4_change_1 (by decide) (by rw [k1_1]; decide) (by decide) ?_
    refine q_aload_n hJ dX4_change_36 (q := 37) rfl rfl rfl ?_
    refine q_iload_n hJ dX4_change_37 (q := 38) rfl rfl ?_
    refine q_putI hJ dX4_change_38 (q := 41) rfl fl_X4_16 rfl rfl (by assumption) rfl rfl ?_
    refine q_goto hJ (tgt := 49) dX4_change_41 (by decide) ?_
    refine q_vret hM dX4_change_49 rfl ?_
    exact ⟨rfl, rfl, by simp [rwC, *], rfl⟩
  refine q_lsw hJ (off := 43) (tgt := 44) dX4_change_1 (by decide) (lsw_out2 (k0 := 0) (by decide) k1_0 (k1 := 1) (by decide) k1_1) (by decide) ?_
  refine q_aload_n hJ dX4_change_44 (q := 45) rfl rfl rfl ?_
  refine q_iload_n hJ dX4_change_45 (q := 46) rfl rfl ?_
  refine q_putI hJ dX4_change_46 (q := 49) rfl fl_X4_19 rfl rfl (by assumption) rfl rfl ?_
  refine q_vret hM dX4_change_49 rfl ?_
  exact ⟨rfl, rfl, by simp [rwC, *], rfl⟩

def ruD (I : MI) (a : Nat) (f c n : Int32) : MI := up2 (up2 (up2 I a 7 f) a 8 c) a 9 n
def ru7 (I : MI) (a : Nat) (e m r k x y z : Int32) : MI := up2 (up2 (up2 (up2 (up2 (up2 (up2 I a 0 e) a 1 m) a 2 r) a 3 k) a 4 x) a 5 y) a 6 z
def ruN (I : MI) (a : Nat) (e m r k x y z : Int32) : MI := up2 (up2 (ruD (ru7 I a e m r k x y z) a 3 4 0) a 10 1) a 11 0
set_option maxRecDepth 100000 in
set_option maxHeartbeats 400000 in
theorem S_demand (a : Nat) (f c n : Int32) (I : MI) (R : MR) (hk : KA g0 a 5 0) : Sp 0 0 0 mX5_demand [.ref a, .int f, .int c, .int n] g0 I R (Rt none g0 (ruD I a f c n) R) := by
  refine Sp.on (by decide +kernel) rfl rfl (fun J hM => ?_)
  have hJ := hM.ok
  refine q_aload_n hJ dX5_demand_0 (q := 1) rfl rfl rfl ?_
  refine q_iload_n hJ dX5_demand_1 (q := 2) rfl rfl ?_
  refine q_putI hJ dX5_demand_2 (q := 5) rfl fl_X5_44 rfl rfl (by assumption) rfl rfl ?_
  refine q_aload_n hJ dX5_demand_5 (q := 6) rfl rfl rfl ?_
  refine q_iload_n hJ dX5_demand_6 (q := 7) rfl rfl ?_
  refine q_putI hJ dX5_demand_7 (q := 10) rfl fl_X5_47 rfl rfl (by assumption) rfl rfl ?_
  refine q_aload_n hJ dX5_demand_10 (q := 11) rfl rfl rfl ?_
  refine q_iload_n hJ dX5_demand_11 (q := 12) rfl rfl ?_
  refine q_putI hJ dX5_demand_12 (q := 15) rfl fl_X5_50 rfl rfl (by assumption) rfl rfl ?_
  refine q_vret hM dX5_demand_15 rfl ?_
  exact ⟨rfl, rfl, rfl, rfl⟩

set_option maxRecDepth 100000 in
set_option maxHeartbeats 400000 in
theorem S_define (a : Nat) (e m r k x y z : Int32) (I : MI) (R : MR) (hk : KA g0 a 5 0) : Sp 1 0 0 mX5_define [.ref a, .int e, .int m, .int r, .int k, .int x, .int y, .int z] g0 I R (Rt none g0 (ruN I a e m r k x y z) R) := by
  refine Sp.on (by decide +kernel) rfl rfl (fun J hM => ?_)
  have hJ := hM.ok
  refine q_aload_n hJ dX5_define_0 (q := 1) rfl rfl rfl ?_
  refine q_iload_n hJ dX5_define_1 (q := 2) rfl rfl ?_
  refine q_putI hJ dX5_define_2 (q := 5) rfl fl_X5_9 rfl rfl (by assumption) rfl rfl ?_
  refine q_aload_n hJ dX5_define_5 (q := 6) rfl rfl rfl ?_
  refine q_iload_n hJ dX5_define_6 (q := 7) rfl rfl ?_
  refine q_putI hJ dX5_define_7 (q := 10) rfl fl_X5_15 rfl rfl (by assumption) rfl rfl ?_
  refine q_aload_n hJ dX5_define_10 (q := 11) rfl rfl rfl ?_
  refine q_iload_n hJ dX5_define_11 (q := 12) rfl rfl ?_
  refine q_putI hJ dX5_define_12 (q := 15) rfl fl_X5_18 rfl rfl (by assumption) rfl rfl ?_
  refine q_aload_n hJ dX5_define_15 (q := 16) rfl rfl rfl ?_
  refine q_iload hJ dX5_define_16 (q := 18) rfl rfl ?_
  refine q_putI hJ dX5_define_18 (q := 21) rfl fl_X5_21 rfl rfl (by assumption) rfl rfl ?_
  refine q_aload_n hJ dX5_define_21 (q := 22) rfl rfl rfl ?_
  refine q_iload hJ dX5_define_22 (q := 24) rfl rfl ?_
  refine q_putI hJ dX5_define_24 (q := 27) rfl fl_X5_24 rfl rfl (by assumption) rfl rfl ?_
  refine q_aload_n hJ dX5_define_27 (q := 28) rfl rfl rfl ?_
  refine q_iload hJ dX5_define_28 (q := 30) rfl rfl ?_
  refine q_putI hJ dX5_define_30 (q := 33) rfl fl_X5_27 rfl rfl (by assumption) rfl rfl ?_
  refine q_aload_n hJ dX5_define_33 (q := 34) rfl rfl rfl ?_
  refine q_iload hJ dX5_define_34 (q := 36) rfl rfl ?_
  refine q_putI hJ dX5_define_36 (q := 39) rfl fl_X5_30 rfl rfl (by assumption) rfl rfl ?_
  refine q_aload_n hJ dX5_define_39 (q := 40) rfl rfl rfl ?_
  refine q_iconst hJ (v := 3) dX5_define_40 (q := 41) rfl (by decide) ?_
  refine q_iconst hJ (v := 4) dX5_define_41 (q := 42) rfl (by decide) ?_
  refine q_iconst hJ (v := 0) dX5_define_42 (q := 43) rfl (by decide) ?_
  refine q_callV hJ dX5_define_43 (q := 46) rfl (S_demand a 3 4 0 _ R hk) imX5_demand ln_X5_33 (by assumption) (by decide) rfl rfl rfl rfl (Nat.le_of_ble_eq_true rfl) (by decide) (by decide) rfl rfl (fun rv gv Iv Rv hv => ?_)
  obtain ⟨rfl, rfl, rfl, rfl⟩ := hv
  refine q_aload_n hJ dX5_define_46 (q := 47) rfl rfl rfl ?_
  refine q_iconst hJ (v := 1) dX5_define_47 (q := 48) rfl (by decide) ?_
  refine q_putI hJ dX5_define_48 (q := 51) rfl fl_X5_37 rfl rfl (by assumption) (by (first | decide | assumption)) (by (first | decide | assumption)) ?_
  refine q_aload_n hJ dX5_define_51 (q := 52) rfl rfl rfl ?_
  refine q_iconst hJ (v := 0) dX5_define_52 (q := 53) rfl (by decide) ?_
  refine q_putI hJ dX5_define_53 (q := 56) rfl fl_X5_41 rfl rfl (by assumption) rfl rfl ?_
  refine q_vret hM dX5_define_56 rfl ?_
  exact ⟨rfl, rfl, rfl, rfl⟩

