/-! THE OBJECT as the law sees it: its state, good; the calls -/
def Good (A : AS) : Prop := okM A ∧ TbG (aK A) (aN A) ∧ aM A ≤ 12 ∧ (aS A 1 = 0 ∨ aS A 1 = 1)
theorem Good.A0 : Good A0 := ⟨⟨⟨fun i hi => absurd hi (Nat.not_lt_zero _), fun i j _ hj => absurd hj (Nat.not_lt_zero _)⟩, fun r hr => absurd hr (Nat.not_lt_zero _), 4, by decide, by decide, rfl⟩, ⟨by decide, ⟨fun i hi => absurd hi (Nat.not_lt_zero _), fun i j _ hj => absurd hj (Nat.not_lt_zero _)⟩, fun i hi => absurd hi (Nat.not_lt_zero _)⟩, by decide, Or.inl rfl⟩
theorem Good.rules {A : AS} (h : Good A) {U : Nat → Nat → Int32} {m : Nat} (hU : ∀ r, r < m → okRu (U r)) (hm : m ≤ 12) : Good (setR A U m) := ⟨⟨h.1.1, hU, h.1.2.2⟩, h.2.1, hm, h.2.2.2⟩
theorem kindF_ne {m k : Int32} (h : ¬ kindF m k = 0) : kindF m k = 1 := by
  unfold kindF at h ⊢
  by_cases h0 : m = 0
  · rw [if_pos h0] at h ⊢; exact inR_ne h
  · rw [if_neg h0] at h ⊢
    by_cases h1 : k = 1
    · rw [if_pos h1]
    · rw [if_neg h1] at h ⊢; exact inR_ne h
theorem Good.add {A : AS} (h : Good A) {e m rk kd a b c : Int32} (ok : addOk A e m rk kd a b c) : Good (setR A (addU A e m rk kd a b c) (aM A + 1)) := by
  obtain ⟨h1, h2⟩ := ok
  refine h.rules (fun r hr => ?_) h2
  show okRu (if r = aM A then defU e m rk kd a b c else aU A r)
  by_cases hq : r = aM A
  · rw [if_pos hq]
    have n1 : ¬ inR e 0 2 = 0 := fun z => h1 (Or.inl z)
    have n2 : ¬ inR m 0 1 = 0 := fun z => h1 (Or.inr (Or.inl z))
    have n3 : ¬ inR rk 0 99 = 0 := fun z => h1 (Or.inr (Or.inr (Or.inl z)))
    have n4 : ¬ kindF m kd = 0 := fun z => h1 (Or.inr (Or.inr (Or.inr (Or.inl z))))
    have n5 : ¬ inR a 0 2 = 0 := fun z => h1 (Or.inr (Or.inr (Or.inr (Or.inr (Or.inl z)))))
    have n6 : ¬ inR b 0 3 = 0 := fun z => h1 (Or.inr (Or.inr (Or.inr (Or.inr (Or.inr (Or.inl z))))))
    exact ⟨⟨inR_ne n1, inR_ne n2, in_99 n3, kindF_ne n4⟩, ⟨inR_ne n5, inR_ne n6, (by decide : inR (3 : Int32) 0 3 = 1), (by decide : inR (4 : Int32) 0 5 = 1)⟩, Or.inr rfl⟩
  · rw [if_neg hq]
    exact h.1.2.1 r (by omega)
theorem Good.put {A : AS} (h : Good A) {r : Nat} {v : Int32} (hv : v = 0 ∨ v = 1) : Good (setR A (putU A r v) (aM A)) := by
  refine h.rules (fun q hq => ?_) h.2.2.1
  show okRu (if q = r then (fun f => if f = 10 then v else aU A r f) else aU A q)
  by_cases e : q = r
  · rw [if_pos e]
    have k := h.1.2.1 r (by omega)
    exact ⟨k.1, k.2.1, hv⟩
  · rw [if_neg e]; exact h.1.2.1 q hq
theorem Good.con {A : AS} (h : Good A) {r : Nat} {f c n : Int32} (hf : inR f 0 3 = 1) (hc : inR c 0 5 = 1) : Good (setR A (conU A r f c n) (aM A)) := by
  refine h.rules (fun q hq => ?_) h.2.2.1
  show okRu (if q = r then (fun t => if t = 7 then f else if t = 8 then c else if t = 9 then n else aU A r t) else aU A q)
  by_cases e : q = r
  · rw [if_pos e]
    have k := h.1.2.1 r (by omega)
    exact ⟨k.1, ⟨k.2.1.1, k.2.1.2.1, hf, hc⟩, k.2.2⟩
  · rw [if_neg e]; exact h.1.2.1 q hq
theorem Good.drop {A : AS} (h : Good A) {i : Nat} (hi : i < aM A) : Good (setR A (dropU A i) (aM A - 1)) := by
  refine h.rules (fun q hq => ?_) (by have := h.2.2.1; omega)
  show okRu (if q < i then aU A q else aU A (q + 1))
  by_cases e : q < i
  · rw [if_pos e]; exact h.1.2.1 q (by omega)
  · rw [if_neg e]; exact h.1.2.1 (q + 1) (by omega)
theorem Good.set0 {A : AS} (h : Good A) {g : Nat} (h1 : 1 ≤ g) (h8 : g ≤ 8) : Good (setA A 0 (nI g)) := ⟨⟨h.1.1, h.1.2.1, g, h1, h8, rfl⟩, h.2.1, h.2.2.1, h.2.2.2⟩
theorem Good.set1 {A : AS} (h : Good A) {v : Int32} (hv : v = 0 ∨ v = 1) : Good (setA A 1 v) := ⟨⟨h.1.1, h.1.2.1, h.1.2.2⟩, h.2.1, h.2.2.1, hv⟩
def resA (X : XS) (A : AS) : AS := if xR X = 0 then finA X else A
theorem Good.fin {A : AS} (h : Good A) {G : Nat} {X : XS} (hr : Run A G X) : Good (finA X) := by
  obtain ⟨f, _, _, k⟩ := hr
  have o := k.ok h.1
  exact ⟨⟨o.1, o.2.1, o.2.2⟩, k.2.1, by show aM (xA X) ≤ 12; rw [k.M]; exact h.2.2.1, by show aS (xA X) 1 = 0 ∨ aS (xA X) 1 = 1; rw [k.S]; exact h.2.2.2⟩
theorem Good.res {A : AS} (h : Good A) {G : Nat} {X : XS} (hr : Run A G X) : Good (resA X A) := by
  unfold resA
  by_cases e : xR X = 0
  · rw [if_pos e]; exact h.fin hr
  · rw [if_neg e]; exact h
def Ob (I : MI) (R : MR) (A : AS) : Prop := ∃ (hs : Nat → AS) (h : Nat) (sn : AS) (kp : Bool) (tx : Nat → Int32) (tn : Nat) (B : AS), CYB I R A hs h sn kp tx tn B
def ObP (v : Int32) (I : MI) (A : AS) : Po := fun r g' I' R' => r = some (.int v) ∧ g0 = g' ∧ Ob I' R' A ∧ I' 317 = I 317
theorem CYB.ob {I : MI} {R : MR} {A : AS} {hs : Nat → AS} {h : Nat} {sn : AS} {kp : Bool} {tx : Nat → Int32} {tn : Nat} {B : AS} (H : CYB I R A hs h sn kp tx tn B) : Ob I R A := ⟨hs, h, sn, kp, tx, tn, B, H⟩
theorem Ob.lo {I I' : MI} {R : MR} {A : AS} (H : Ob I R A) (k : ∀ a, a < 317 → I' a = I a) : Ob I' R A := by
  obtain ⟨hs, h, sn, kp, tx, tn, B, e1, e2, e3, e4, e5, e6, e7, e8, e9, e10, e11, e12, e13⟩ := H
  exact ⟨hs, h, sn, kp, tx, tn, B, e1, fun d h1 h8 => by rw [k _ (by omega)]; exact e2 d h1 h8, fun r hr => by rw [k 44 (by omega)]; exact e3 r hr, e4.agr (fun a _ q => k a (by omega)) (Agr.rf _ _ _), e5.agr (fun a _ q => k a (by omega)) (Agr.rf _ _ _), e6.agr (fun a _ q => k a (by omega)) (Agr.rf _ _ _), by rw [k 0 (by omega)]; exact e7, e8.agr (fun a _ q => k a (by omega)) (Agr.rf _ _ _), e9.agr (fun a _ q => k a (by omega)), e10, e11, e12, e13⟩
theorem Ob.t {I : MI} {R : MR} {A : AS} (H : Ob I R A) (k : Nat) (v : Int32) : Ob (up2 I 317 k v) R A := H.lo (fun a ha => up2_other _ _ _ _ (by omega))
theorem O_field (k f : Int32) {A : AS} {I : MI} {R : MR} (H : Ob I R A) : Sp 37 0 0 mX10_field [.ref 0, .int k, .int f] g0 I R (Rt (some (.int (fieldF A k f))) g0 I R) := by
  obtain ⟨hs, h, sn, kp, tx, tn, B, H⟩ := H
  exact S_field k f A hs h sn kp tx tn B I R H
theorem O_keyAt (x : Int32) {A : AS} {I : MI} {R : MR} (H : Ob I R A) : Sp 37 0 0 mX10_keyAt [.ref 0, .int x] g0 I R (Rt (some (.int (keyF A x))) g0 I R) := by
  obtain ⟨hs, h, sn, kp, tx, tn, B, H⟩ := H
  exact S_keyAt x A hs h sn kp tx tn B I R H
theorem O_rule (x w : Int32) {A : AS} {I : MI} {R : MR} (H : Ob I R A) : Sp 37 0 0 mX10_rule [.ref 0, .int x, .int w] g0 I R (Rt (some (.int (ruleF A x w))) g0 I R) := by
  obtain ⟨hs, h, sn, kp, tx, tn, B, H⟩ := H
  exact S_rule x w A hs h sn kp tx tn B I R H
theorem O_order (e m p : Int32) {A : AS} {I : MI} {R : MR} (H : Ob I R A) : Sp 37 0 0 mX10_order [.ref 0, .int e, .int m, .int p] g0 I R (Rt (some (.int (ordF A e m p))) g0 I R) := by
  obtain ⟨hs, h, sn, kp, tx, tn, B, H⟩ := H
  exact S_order e m p A hs h sn kp tx tn B I R H
theorem O_firing (x w : Int32) {A : AS} {I : MI} {R : MR} (H : Ob I R A) : Sp 37 0 0 mX10_firing [.ref 0, .int x, .int w] g0 I R (Rt (some (.int (firF A x w))) g0 I R) := by
  obtain ⟨hs, h, sn, kp, tx, tn, B, H⟩ := H
  exact S_firing x w A hs h sn kp tx tn B I R H
theorem O_total (w : Int32) (h1 : ¬ w = 10) (h2 : ¬ w = 11) {A : AS} {I : MI} {R : MR} (H : Ob I R A) : Sp 37 0 0 mX10_total [.ref 0, .int w] g0 I R (Rt (some (.int (stTell A w))) g0 I R) := by
  obtain ⟨hs, h, sn, kp, tx, tn, B, H⟩ := H
  have k := S_total w A hs h sn kp tx tn B I R H
  rw [totF, if_neg h1, if_neg h2] at k
  exact k
theorem or_ob {ok : Prop} {I : MI} {R : MR} {A A2 : AS} {hs hs2 : Nat → AS} {h h2 : Nat} {sn : AS} {kp : Bool} {tx : Nat → Int32} {tn : Nat} {B B2 : AS} (hX : (ok ∧ CYB I R A2 hs2 h2 sn kp tx tn B) ∨ (¬ ok ∧ CYB I R A hs h sn kp tx tn B2)) : (ok → Ob I R A2) ∧ (¬ ok → Ob I R A) := by
  rcases hX with ⟨k, H⟩ | ⟨k, H⟩
  · exact ⟨fun _ => H.ob, fun z => absurd k z⟩
  · exact ⟨fun z => absurd z k, fun _ => H.ob⟩
theorem st_ob {ft ev : Int32} {img : Nat → Int32} {I : MI} {R : MR} {A : AS} (h : (stOk ft ev img A → Ob I R (finA (XR ev img A))) ∧ (¬ stOk ft ev img A → Ob I R A)) : Ob I R (if ft = 0 then resA (XR ev img A) A else A) := by
  by_cases h0 : ft = 0
  · rw [if_pos h0, resA]
    by_cases h1 : xR (XR ev img A) = 0
    · rw [if_pos h1]; exact h.1 ⟨h0, h1⟩
    · rw [if_neg h1]; exact h.2 (fun z => h1 z.2)
  · rw [if_neg h0]; exact h.2 (fun z => h0 z.1)
theorem O_insert (k z o t : Int32) {A : AS} {I : MI} {R : MR} (H : Ob I R A) : Sp 37 0 0 mX10_insert [.ref 0, .int k, .int z, .int o, .int t] g0 I R (ObP (stR (insF A k z o t) 0 (insI k z o t) A) I (if insF A k z o t = 0 then resA (XR 0 (insI k z o t) A) A else A)) := by
  obtain ⟨hs, h, sn, kp, tx, tn, B, H⟩ := H
  exact (S_insert k z o t A hs h sn kp tx tn B I R H).weaken (fun r g' I' R' ⟨h1, h2, h3, h4⟩ => ⟨h1, h2, st_ob (or_ob h3), h4 317 (Nat.le_refl _)⟩)
theorem O_update (k f v : Int32) {A : AS} {I : MI} {R : MR} (H : Ob I R A) : Sp 37 0 0 mX10_update [.ref 0, .int k, .int f, .int v] g0 I R (ObP (stR (updF A k f v) 1 (updI A k f v) A) I (if updF A k f v = 0 then resA (XR 1 (updI A k f v) A) A else A)) := by
  obtain ⟨hs, h, sn, kp, tx, tn, B, H⟩ := H
  exact (S_update k f v A hs h sn kp tx tn B I R H).weaken (fun r g' I' R' ⟨h1, h2, h3, h4⟩ => ⟨h1, h2, st_ob (or_ob h3), h4 317 (Nat.le_refl _)⟩)
theorem O_delete (k : Int32) {A : AS} {I : MI} {R : MR} (H : Ob I R A) : Sp 37 0 0 mX10_delete [.ref 0, .int k] g0 I R (ObP (stR (dltF A k) 2 (dltI A k) A) I (if dltF A k = 0 then resA (XR 2 (dltI A k) A) A else A)) := by
  obtain ⟨hs, h, sn, kp, tx, tn, B, H⟩ := H
  exact (S_delete k A hs h sn kp tx tn B I R H).weaken (fun r g' I' R' ⟨h1, h2, h3, h4⟩ => ⟨h1, h2, st_ob (or_ob h3), h4 317 (Nat.le_refl _)⟩)
theorem O_ifIns (k z o t w : Int32) {A : AS} {I : MI} {R : MR} (H : Ob I R A) : Sp 37 0 0 mX10_ifInserted [.ref 0, .int k, .int z, .int o, .int t, .int w] g0 I R (ObP (ifV (insF A k z o t) w (XR 0 (insI k z o t) A)) I A) := by
  obtain ⟨hs, h, sn, kp, tx, tn, B, H⟩ := H
  exact (S_ifIns k z o t w A hs h sn kp tx tn B I R H).weaken (fun r g' I' R' ⟨h1, h2, ⟨_, h3⟩, h4⟩ => ⟨h1, h2, h3.ob, h4 317 (Nat.le_refl _)⟩)
theorem O_ifDel (k w : Int32) {A : AS} {I : MI} {R : MR} (H : Ob I R A) : Sp 37 0 0 mX10_ifDeleted [.ref 0, .int k, .int w] g0 I R (ObP (ifV (dltF A k) w (XR 2 (dltI A k) A)) I A) := by
  obtain ⟨hs, h, sn, kp, tx, tn, B, H⟩ := H
  exact (S_ifDel k w A hs h sn kp tx tn B I R H).weaken (fun r g' I' R' ⟨h1, h2, ⟨_, h3⟩, h4⟩ => ⟨h1, h2, h3.ob, h4 317 (Nat.le_refl _)⟩)
theorem O_ifUpd (k f v w : Int32) {A : AS} {I : MI} {R : MR} (H : Ob I R A) : Sp 37 0 0 mX10_ifUpdated [.ref 0, .int k, .int f, .int v, .int w] g0 I R (ObP (ifU (updF A k f v) w (XR 1 (updI A k f v) A)) I A) := by
  obtain ⟨hs, h, sn, kp, tx, tn, B, H⟩ := H
  exact (S_ifUpd k f v w A hs h sn kp tx tn B I R H).weaken (fun r g' I' R' ⟨h1, h2, ⟨_, h3⟩, h4⟩ => ⟨h1, h2, h3.ob, h4 317 (Nat.le_refl _)⟩)
theorem O_depthFor (k f v : Int32) {A : AS} {I : MI} {R : MR} (H : Ob I R A) : Sp 37 0 0 mX10_depthFor [.ref 0, .int k, .int f, .int v] g0 I R (ObP (dpV A k f v) I A) := by
  obtain ⟨hs, h, sn, kp, tx, tn, B, H⟩ := H
  exact (S_depthFor k f v A hs h sn kp tx tn B I R H).weaken (fun r g' I' R' ⟨h1, h2, ⟨_, h3⟩, h4⟩ => ⟨h1, h2, h3.ob, h4 317 (Nat.le_refl _)⟩)
/-- what a change of the rules or settings leaves, one or the other way -/
def ObQ (v : Int32) (I : MI) (ok : Prop) (A2 A : AS) : Po := fun r g' I' R' => r = some (.int v) ∧ g0 = g' ∧ ((ok → Ob I' R' A2) ∧ (¬ ok → Ob I' R' A)) ∧ I' 317 = I 317
theorem O_set (s v : Int32) {A : AS} {I : MI} {R : MR} (H : Ob I R A) : Sp 37 0 0 mX10_set [.ref 0, .int s, .int v] g0 I R (ObQ (setV A s v) I (setOk A s v) (setA A s v) A) := by
  obtain ⟨hs, h, sn, kp, tx, tn, B, H⟩ := H
  exact (S_set s v A hs h sn kp tx tn B I R H).weaken (fun r g' I' R' ⟨h1, h2, h3, h4⟩ => ⟨h1, h2, or_ob h3, h4 317 (Nat.le_refl _)⟩)
theorem O_put (x v : Int32) (hv1 : v = 0 ∨ v = 1) {A : AS} {I : MI} {R : MR} (H : Ob I R A) : Sp 37 0 0 mX10_put [.ref 0, .int x, .int v] g0 I R (ObQ (putV A x v) I (putOk A x v) (setR A (putU A x.toNatClampNeg v) (aM A)) A) := by
  obtain ⟨hs, h, sn, kp, tx, tn, B, H⟩ := H
  exact (S_put x v hv1 A hs h sn kp tx tn B I R H).weaken (fun r g' I' R' ⟨h1, h2, h3, h4⟩ => ⟨h1, h2, or_ob h3, h4 317 (Nat.le_refl _)⟩)
theorem O_cond (x f c n : Int32) {A : AS} {I : MI} {R : MR} (H : Ob I R A) : Sp 37 0 0 mX10_setCondition [.ref 0, .int x, .int f, .int c, .int n] g0 I R (ObQ (conV A x f c n) I (conOk A x f c n) (setR A (conU A x.toNatClampNeg f c n) (aM A)) A) := by
  obtain ⟨hs, h, sn, kp, tx, tn, B, H⟩ := H
  exact (S_cond x f c n A hs h sn kp tx tn B I R H).weaken (fun r g' I' R' ⟨h1, h2, h3, h4⟩ => ⟨h1, h2, or_ob h3, h4 317 (Nat.le_refl _)⟩)
theorem O_add (e m rk kd a b c : Int32) {A : AS} {I : MI} {R : MR} (H : Ob I R A) : Sp 37 0 0 mX10_addRule [.ref 0, .int e, .int m, .int rk, .int kd, .int a, .int b, .int c] g0 I R (ObQ (addV A e m rk kd a b c) I (addOk A e m rk kd a b c) (setR A (addU A e m rk kd a b c) (aM A + 1)) A) := by
  obtain ⟨hs, h, sn, kp, tx, tn, B, H⟩ := H
  exact (S_add e m rk kd a b c A hs h sn kp tx tn B I R H).weaken (fun r g' I' R' ⟨h1, h2, h3, h4⟩ => ⟨h1, h2, or_ob h3, h4 317 (Nat.le_refl _)⟩)
theorem O_remove (x : Int32) {A : AS} {I : MI} {R : MR} (H : Ob I R A) : Sp 37 0 0 mX10_removeRule [.ref 0, .int x] g0 I R (ObQ (dropV A x) I (okR A x) (setR A (dropU A x.toNatClampNeg) (aM A - 1)) A) := by
  obtain ⟨hs, h, sn, kp, tx, tn, B, H⟩ := H
  exact (S_remove x A hs h sn kp tx tn B I R H).weaken (fun r g' I' R' ⟨h1, h2, h3, h4⟩ => ⟨h1, h2, or_ob h3, h4 317 (Nat.le_refl _)⟩)
