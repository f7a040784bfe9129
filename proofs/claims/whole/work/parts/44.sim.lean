/-! THE MODEL: its steps do what an operation does -/
def Hd (J : JT) (p : Nat) (y2 y3 : Int32) (R : MR) (d k : Nat) (I : MI) : Prop := J 0 0 59 [some (.ref 317), some (.int (nI p)), some (.int y2), some (.int y3), some (.int (nI d)), some (.int (nI k))] [] g0 I R
def InvM (m d : Nat) (cs : List Nat) (I : MI) : Prop := ∀ q, q < m → ((∃ k, 2 ≤ k ∧ k < d + 1 ∧ I 322 (8 * k + 7) = nI q) ↔ q ∈ cs)
theorem InvM.keep {m d : Nat} {cs : List Nat} {I I' : MI} (h : InvM m d cs I) (h1 : ∀ i, i < 8 * d → I' 322 i = I 322 i) (h2 : I' 322 (8 * d + 7) = I 322 (8 * d + 7)) : InvM m d cs I' := fun q hq => by
  rw [← h q hq]
  have e : ∀ k, k < d + 1 → I' 322 (8 * k + 7) = I 322 (8 * k + 7) := fun k hk => by
    by_cases z : k = d
    · rw [z]; exact h2
    · exact h1 _ (by omega)
  constructor
  · rintro ⟨k, a, b, c⟩; exact ⟨k, a, b, by rw [← e k b]; exact c⟩
  · rintro ⟨k, a, b, c⟩; exact ⟨k, a, b, by rw [e k b]; exact c⟩
theorem InvM.push {m d r : Nat} {cs : List Nat} {I I' : MI} (h : InvM m d cs I) (hm : m ≤ 12) (hr : r < m) (h1d : 1 ≤ d) (h1 : ∀ k, k < d + 1 → I' 322 (8 * k + 7) = I 322 (8 * k + 7)) (h2 : I' 322 (8 * (d + 1) + 7) = nI r) : InvM m (d + 1) (r :: cs) I' := fun q hq => by
  rw [List.mem_cons, ← h q hq]
  constructor
  · rintro ⟨k, a, b, c⟩
    by_cases z : k = d + 1
    · rw [z, h2] at c
      exact Or.inl ((nI_eq (by omega) (by omega)).mp c).symm
    · exact Or.inr ⟨k, a, by omega, by rw [← h1 k (by omega)]; exact c⟩
  · rintro (rfl | ⟨k, a, b, c⟩)
    · exact ⟨d + 1, by omega, by omega, h2⟩
    · exact ⟨k, a, by omega, by rw [h1 k (by omega)]; exact c⟩
set_option maxRecDepth 100000 in
set_option maxHeartbeats 400000 in
theorem hd_step {J : JT} (hJ : Ok mX11_runs (rmD 7 0 0) J) {p d k : Nat} {y2 y3 : Int32} {I : MI} {R : MR} {X : XS} (hFR : FR R) (hX : EM I p X) (hR0 : xR X = 0) (h1 : 1 ≤ d) (hd : d < 9) (hk : k < 10000) {dd : Nat} (hdd : dd ≤ 6) {Φ : Po} (S : Sp dd 0 0 mX11_goes [.ref 317, .int (nI p), .int (nI d)] g0 I R Φ) (kk : ∀ v g' I' R', Φ v g' I' R' → ∃ d', v = some (.int (nI d')) ∧ g0 = g' ∧ R = R' ∧ Hd J p y2 y3 R d' (k + 1) I') : Hd J p y2 y3 R d k I := by
  have hm0 := hFR.2.2.2.2.2.1
  have hm1 := hFR.2.2.2.2.2.2.1
  have hm3 := hFR.2.2.2.2.2.2.2.1
  have hm5 := hFR.2.2.2.2.2.2.2.2.1
  have hm7 := hFR.2.2.2.2.2.2.2.2.2
  unfold Hd
  refine q_iload hJ dX11_runs_59 (q := 61) rfl rfl ?_
  refine q_sipush hJ (v := 10000) dX11_runs_61 (q := 64) rfl (by decide) ?_
  refine q_icmp_ge hJ (tgt := 94) dX11_runs_64 (q := 67) rfl (by decide) (fun q1 => absurd ((nI_leI (a := 10000) (b := k) (by decide) (by omega)).mp q1) (by omega)) (fun _ => ?_)
  refine q_iload hJ dX11_runs_67 (q := 69) rfl rfl ?_
  refine q_if_le hJ (tgt := 94) dX11_runs_69 (q := 72) rfl (by decide) (fun q2 => absurd q2 (nI_nle h1 (by omega))) (fun _ => ?_)
  refine q_aload_n hJ dX11_runs_72 (q := 73) rfl rfl (by first | rfl | exact isR_rr _) ?_
  refine q_getI hJ dX11_runs_73 (q := 76) rfl fl_X11_48 rfl (by first | exact ka317 | exact ka318 | exact ka319 | exact ka320 | exact ka321 | exact ka322) (hX.2.2.2.2.2.1.trans hR0) ?_
  refine q_if_ne hJ (tgt := 94) dX11_runs_76 (q := 79) rfl (by decide) (fun q3 => absurd rfl q3) (fun _ => ?_)
  refine q_aload_n hJ dX11_runs_79 (q := 80) rfl rfl (by first | rfl | exact isR_rr _) ?_
  refine q_iload_n hJ dX11_runs_80 (q := 81) rfl rfl ?_
  refine q_iload hJ dX11_runs_81 (q := 83) rfl rfl ?_
  refine q_callV hJ dX11_runs_83 (q := 86) rfl S imX11_goes ln_X11_117 (by first | exact ka317 | exact ka318 | exact ka319 | exact ka320 | exact ka321 | exact ka322) (by decide) rfl rfl rfl rfl (Nat.le_of_ble_eq_true rfl) ⟨(by show dd + 1 ≤ 7; omega), (by show 8 + (5 + 11) + 40 * dd ≤ 40 * 7; omega)⟩ (by decide) rfl rfl (fun rv gv Iv Rv hv => ?_)
  obtain ⟨d', rfl, rfl, rfl, hH⟩ := kk _ _ _ _ hv
  refine q_istore hJ dX11_runs_86 (q := 88) rfl (by decide) ?_
  refine q_iinc hJ dX11_runs_88 (q := 91) rfl (by decide) rfl (nI_1 k) ?_
  refine q_goto hJ (tgt := 59) dX11_runs_91 (by decide) ?_
  exact hH
set_option maxRecDepth 100000 in
set_option maxHeartbeats 400000 in
theorem hd_exit {J : JT} (hJ : Ok mX11_runs (rmD 7 0 0) J) {p d k : Nat} {y2 y3 : Int32} {I : MI} {R : MR} (hFR : FR R) (h : d = 0 ∨ ¬ I 317 11 = 0) (hE : J 0 0 94 [some (.ref 317), some (.int (nI p)), some (.int y2), some (.int y3), some (.int (nI d)), some (.int (nI k))] [] g0 I R) : Hd J p y2 y3 R d k I := by
  have hm0 := hFR.2.2.2.2.2.1
  have hm1 := hFR.2.2.2.2.2.2.1
  have hm3 := hFR.2.2.2.2.2.2.2.1
  have hm5 := hFR.2.2.2.2.2.2.2.2.1
  have hm7 := hFR.2.2.2.2.2.2.2.2.2
  unfold Hd
  refine q_iload hJ dX11_runs_59 (q := 61) rfl rfl ?_
  refine q_sipush hJ (v := 10000) dX11_runs_61 (q := 64) rfl (by decide) ?_
  refine q_icmp_ge hJ (tgt := 94) dX11_runs_64 (q := 67) rfl (by decide) (fun q1 => ?_) (fun q1 => ?_)
  · exact hE
  · refine q_iload hJ dX11_runs_67 (q := 69) rfl rfl ?_
    refine q_if_le hJ (tgt := 94) dX11_runs_69 (q := 72) rfl (by decide) (fun q2 => ?_) (fun q2 => ?_)
    · exact hE
    · refine q_aload_n hJ dX11_runs_72 (q := 73) rfl rfl (by first | rfl | exact isR_rr _) ?_
      refine q_getI hJ dX11_runs_73 (q := 76) rfl fl_X11_48 rfl (by first | exact ka317 | exact ka318 | exact ka319 | exact ka320 | exact ka321 | exact ka322) rfl ?_
      refine q_if_ne hJ (tgt := 94) dX11_runs_76 (q := 79) rfl (by decide) (fun q3 => ?_) (fun q3 => ?_)
      · exact hE
      · exact absurd (h.resolve_left (fun z => q2 (by rw [z]; decide))) (fun z => z q3)
def FldC (J : JT) (p : Nat) (y2 y3 : Int32) (R : MR) (I0 : MI) (d : Nat) (ev mo ca : Int32) (pl B : Nat) (F : Bool × (Nat → Int32) × XS) : Prop :=
  (F.1 = true → ∀ I' k', EM I' p F.2.2 → Kp p I0 I' → FrP I' d ev F.2.1 mo (nI pl) ca → (∀ i, i < 8 * d → I' 322 i = I0 322 i) → xR F.2.2 = 0 → k' + B ≤ 26 * xO F.2.2 → Hd J p y2 y3 R d k' I') ∧
  (F.1 = false → ∀ I' k', EM I' p F.2.2 → Kp p I0 I' → (∀ i, i < 8 * d → I' 322 i = I0 322 i) → xR F.2.2 = 0 → k' + B ≤ 26 * xO F.2.2 → Hd J p y2 y3 R (d - 1) k' I') ∧
  (F.1 = false → ∀ I' k' d', EM I' p F.2.2 → Kp p I0 I' → ¬ xR F.2.2 = 0 → d' ≤ 8 → k' ≤ 10000 → Hd J p y2 y3 R d' k' I')
theorem FldC.shift {J : JT} {p : Nat} {y2 y3 : Int32} {R : MR} {I0 I1 : MI} {d : Nat} {ev mo ca : Int32} {pl B : Nat} {F : Bool × (Nat → Int32) × XS} (h : FldC J p y2 y3 R I0 d ev mo ca pl B F) (hk : Kp p I0 I1) (hl : ∀ i, i < 8 * d → I1 322 i = I0 322 i) : FldC J p y2 y3 R I1 d ev mo ca pl B F :=
  ⟨fun e I' k' a b c f g i => h.1 e I' k' a (hk.tr b) c (fun t ht => (f t ht).trans (hl t ht)) g i, fun e I' k' a b f g i => h.2.1 e I' k' a (hk.tr b) (fun t ht => (f t ht).trans (hl t ht)) g i, fun e I' k' d' a b c f g => h.2.2 e I' k' d' a (hk.tr b) c f g⟩
def OpC (J : JT) (p : Nat) (y2 y3 : Int32) (R : MR) (I0 : MI) (d B : Nat) (X' : XS) : Prop :=
  (∀ I' k', EM I' p X' → Kp p I0 I' → (∀ i, i < 8 * d → I' 322 i = I0 322 i) → xR X' = 0 → k' + B ≤ 26 * xO X' → Hd J p y2 y3 R (d - 1) k' I') ∧
  (∀ I' k' d', EM I' p X' → Kp p I0 I' → ¬ xR X' = 0 → d' ≤ 8 → k' ≤ 10000 → Hd J p y2 y3 R d' k' I')
/-- an operation that has begun -/
def opC (sub : SubT) (d : Nat) (cs : List Nat) (ev : Int32) (img : Nat → Int32) (X : XS) : XS :=
  if (fldA sub d cs ev 0 (odA (xA X)) 0 (aM (xA X)) img X).1 = true then
    (fldA sub d cs ev 1 (odA (xA X)) 0 (aM (xA X)) (fldA sub d cs ev 0 (odA (xA X)) 0 (aM (xA X)) img X).2.1 ((carA ev (fldA sub d cs ev 0 (odA (xA X)) 0 (aM (xA X)) img X).2.1 (xA (fldA sub d cs ev 0 (odA (xA X)) 0 (aM (xA X)) img X).2.2), (fldA sub d cs ev 0 (odA (xA X)) 0 (aM (xA X)) img X).2.2.2) : XS)).2.2
  else (fldA sub d cs ev 0 (odA (xA X)) 0 (aM (xA X)) img X).2.2
def SimH (J : JT) (p : Nat) (y2 y3 : Int32) (R : MR) (sub : SubT) (d : Nat) (cs : List Nat) : Prop := ∀ (ev : Int32) (img : Nat → Int32) (ca : Int32) (X : XS) (I : MI) (k B : Nat), EM I p X → xR X = 0 → xO X ≤ 100 → FrP I d ev img 0 0 ca → (∃ q, q < 100 ∧ img 0 = nI q) → CanC (xA X) ev img → (ev = 0 ∨ ev = 1 ∨ ev = 2) → InvM (aM (xA X)) d cs I → (∀ G, aS (xA X) 0 = nI G → d ≤ G) → k + 26 + B ≤ 26 * xO X → OpC J p y2 y3 R I d B (opC sub d cs ev img X) → Hd J p y2 y3 R d k I
def SubM (J : JT) (p : Nat) (y2 y3 : Int32) (R : MR) (d : Nat) (cs : List Nat) (sub : SubT) : Prop := (sub = none ∧ d = 8) ∨ ∃ (f : Int32 → Nat → (Nat → Int32) → XS → XS) (sub2 : Nat → SubT), sub = some f ∧ d < 8 ∧ (∀ ev r img X, f ev r img X = if 100 ≤ xO X then refA X 3 (nI r) else opC (sub2 r) (d + 1) (r :: cs) ev img (begA (d + 1) X)) ∧ SubS (some f) ∧ ∀ r, SimH J p y2 y3 R (sub2 r) (d + 1) (r :: cs)
theorem kind_cases {u : Nat → Int32} (h : okRu u) : (u 1 = 0 ∧ (u 3 = 0 ∨ u 3 = 1 ∨ u 3 = 2)) ∨ (u 1 = 1 ∧ (u 3 = 1 ∨ u 3 = 3 ∨ u 3 = 4 ∨ u 3 = 5)) := by
  obtain ⟨⟨_, h1, _, h3⟩, _⟩ := h
  unfold kindF at h3
  by_cases e : u 1 = 0
  · rw [if_pos e] at h3; exact Or.inl ⟨e, in_02 h3⟩
  · rw [if_neg e] at h3
    have e1 : u 1 = 1 := by
      obtain ⟨a, b⟩ := inR_iff (fun z => absurd (h1.symm.trans z) (by decide))
      obtain ⟨j, hj, hx⟩ := nI_of2 (M := 1) (n := 1) rfl a (Int32.not_lt.mp b)
      rcases (show j = 0 ∨ j = 1 by omega) with rfl | rfl
      · exact absurd hx e
      · exact hx
    refine Or.inr ⟨e1, ?_⟩
    by_cases e2 : u 3 = 1
    · exact Or.inl e2
    · rw [if_neg e2] at h3
      obtain ⟨a, b⟩ := inR_iff (fun z => absurd (h3.symm.trans z) (by decide))
      have a0 : ¬ u 3 < 0 := fun z => a (Int32.lt_trans z (by decide))
      obtain ⟨j, hj, hx⟩ := nI_of2 (M := 5) (n := 5) rfl a0 (Int32.not_lt.mp b)
      have h3j : ¬ j < 3 := fun z => a (by rw [hx]; exact (nI_ltI (b := 3) (by omega) (by decide)).mpr z)
      rcases (show j = 3 ∨ j = 4 ∨ j = 5 by omega) with rfl | rfl | rfl
      · exact Or.inr (Or.inl hx)
      · exact Or.inr (Or.inr (Or.inl hx))
      · exact Or.inr (Or.inr (Or.inr hx))
theorem prep_can {A : AS} {u img img2 : Nat → Int32} (ok : okM A) (hk : u 3 = 3 ∨ u 3 = 4 ∨ u 3 = 5) (h4 : inR (u 4) 0 2 = 1) (h : prepA A u img = some img2) : CanC A (u 3 - 3) img2 ∧ (∃ q, q < 100 ∧ img2 0 = nI q) ∧ (u 3 - 3 = 0 ∨ u 3 - 3 = 1 ∨ u 3 - 3 = 2) := by
  have fnd : ∀ {key : Int32} {i : Nat}, fK A key = some i → aK A i 0 = key ∧ ∃ q, q < 100 ∧ key = nI q := fun {key i} hf => by
    obtain ⟨_, h2, h3, _⟩ := fndF_some hf
    have h3' : aK A i 0 = key := h3
    obtain ⟨q, hq, e⟩ := ok.1.1 i (by omega)
    exact ⟨h3', q, hq, h3'.symm.trans e⟩
  rcases hk with e | e | e
  · rw [prepA, if_pos e] at h
    rw [e]
    split at h
    · exact absurd h (by simp)
    next hc =>
      have h1 : img2 0 = valF u img := by rw [← Option.some.inj h]; rfl
      have hc1 : cantA A (valF u img) = 1 := by
        unfold cantA at hc ⊢
        repeat' split at hc
        all_goals first | exact absurd rfl hc | skip
        all_goals simp_all
      refine ⟨Or.inl ⟨rfl, by rw [h1]; exact hc1⟩, by rw [h1]; exact (cant_1 hc1).1, Or.inl rfl⟩
  · rw [prepA, if_neg (by rw [e]; decide), if_pos e, prUp] at h
    rw [e]
    rcases hf : fK A (nxt (img 0)) with _ | i
    · rw [hf] at h; exact absurd h (by simp)
    · rw [hf] at h
      simp only at h
      split at h
      · exact absurd h (by simp)
      · obtain ⟨a, ha, hA⟩ := n_02 h4
        obtain ⟨f1, f2⟩ := fnd hf
        have h1 : img2 0 = nxt (img 0) := by rw [← Option.some.inj h, hA, chgF_n ha, if_neg (by omega)]; exact f1
        exact ⟨Or.inr ⟨Or.inl rfl, i, by rw [h1]; exact hf⟩, by rw [h1]; exact f2, Or.inr (Or.inl rfl)⟩
  · rw [prepA, if_neg (by rw [e]; decide), if_neg (by rw [e]; decide), prDel] at h
    rw [e]
    rcases hf : fK A (valF u img) with _ | i
    · rw [hf] at h; exact absurd h (by simp)
    · rw [hf] at h
      obtain ⟨f1, f2⟩ := fnd hf
      have h1 : img2 0 = valF u img := by rw [← Option.some.inj h]; exact f1
      exact ⟨Or.inr ⟨Or.inr rfl, i, by rw [h1]; exact hf⟩, by rw [h1]; exact f2, Or.inr (Or.inr rfl)⟩
theorem chgF_0 (img : Nat → Int32) (f x : Int32) : chgF img f x 0 = img 0 := by
  unfold chgF
  rw [if_neg]
  split
  · decide
  · split <;> decide
theorem fire_key (sub : SubT) (d r : Nat) (img : Nat → Int32) (X : XS) : (fireA sub d r img X).2.1 0 = img 0 := by
  unfold fireA
  split
  · exact chgF_0 _ _ _
  · split
    · rfl
    · split <;> rfl
theorem fld_key (sub : SubT) (d : Nat) (cs : List Nat) (ev mo : Int32) (od : Nat → Nat) (j k : Nat) (img : Nat → Int32) (X : XS) : (fldA sub d cs ev mo od j k img X).2.1 0 = img 0 := by
  induction k generalizing j img X with
  | zero => rfl
  | succ k ih =>
    unfold fldA
    split
    · split
      · rw [ih]; exact fire_key _ _ _ _ _
      · exact fire_key _ _ _ _ _
    · exact ih _ _ _
theorem fld_rows (sub : SubT) (d : Nat) (cs : List Nat) (ev : Int32) (od : Nat → Nat) (j k : Nat) (img : Nat → Int32) (X : XS) (hok : ∀ r, r < aM (xA X) → okRu (aU (xA X) r)) (hod : ∀ t, j ≤ t → t < j + k → od t < aM (xA X)) : aK (xA (fldA sub d cs ev 0 od j k img X).2.2) = aK (xA X) ∧ aN (xA (fldA sub d cs ev 0 od j k img X).2.2) = aN (xA X) := by
  induction k generalizing j img X with
  | zero => exact ⟨rfl, rfl⟩
  | succ k ih =>
    unfold fldA
    have c := cnt_eq d (od j) img X
    have st := cnt_stb d (od j) img X
    have ok2 : ∀ r, r < aM (xA (cntA d (od j) img X)) → okRu (aU (xA (cntA d (od j) img X)) r) := fun r hr => by
      have h0 := hok r (by rw [← st.2.1]; exact hr)
      have e := st.1 r
      unfold okRu at h0 ⊢
      rw [e 0 (by decide), e 1 (by decide), e 2 (by decide), e 3 (by decide), e 4 (by decide), e 5 (by decide), e 7 (by decide), e 8 (by decide), e 10 (by decide)]
      exact h0
    split
    next hh =>
      have hp : aU (xA X) (od j) 1 = 0 := by
        unfold hitA at hh
        exact (of_decide_eq_true hh).2.1.2
      have hk := kind_cases (hok (od j) (hod j (Nat.le_refl _) (by omega)))
      have hk3 : aU (xA X) (od j) 3 = 0 ∨ aU (xA X) (od j) 3 = 1 ∨ aU (xA X) (od j) 3 = 2 := by
        rcases hk with h | h
        · exact h.2
        · rw [hp] at h; exact absurd h.1 (by decide)
      have e3 : aK (xA (fireA sub d (od j) img X).2.2) = aK (xA X) ∧ aN (xA (fireA sub d (od j) img X).2.2) = aN (xA X) := by
        unfold fireA
        rcases hk3 with e | e | e
        · rw [if_pos e]; exact ⟨c.1, c.2.1⟩
        · rw [if_neg (by rw [e]; decide), if_pos e]; exact ⟨c.1, c.2.1⟩
        · rw [if_neg (by rw [e]; decide), if_neg (by rw [e]; decide), if_pos e]; exact ⟨c.1, c.2.1⟩
      split
      next ht =>
        have ef : (fireA sub d (od j) img X).2.2 = cntA d (od j) img X := by
          unfold fireA at ht ⊢
          rcases hk3 with e | e | e
          · rw [if_pos e]
          · rw [if_neg (by rw [e]; decide), if_pos e] at ht; exact absurd ht (by simp)
          · rw [if_neg (by rw [e]; decide), if_neg (by rw [e]; decide), if_pos e] at ht; exact absurd ht (by simp)
        rw [ef]
        obtain ⟨i1, i2⟩ := ih (j + 1) (fireA sub d (od j) img X).2.1 (cntA d (od j) img X) ok2 (fun t h1 h2 => by rw [st.2.1]; exact hod t (by omega) (by omega))
        exact ⟨i1.trans c.1, i2.trans c.2.1⟩
      · exact e3
    next => exact ih (j + 1) img X hok (fun t h1 h2 => hod t (by omega) (by omega))
