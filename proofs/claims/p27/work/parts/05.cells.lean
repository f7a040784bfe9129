/-! CELLS: fields, arrays, new ones; answers; calls -/
section Mem
variable {Y : MT} {Rm : Room} {J : JT} {cu su pc q : Nat} {ls : List (Option Value)} {st : List Value} {g : Geo} {I : MI} {R : MR}
theorem q_getI (hJ : Ok Y Rm J) {a ci k idx : Nat} {x : Int32} (hd : decode Y.2.1 pc = .ok (.getfield idx, 3)) (hq : pc + 3 = q) (hf : FL Y.1.cls idx ci k) (ht : isI (cTy ci k) = true) (hk : KA g a ci 0) (hv : I a k = x) (kk : J cu su q ls (.int x :: st) g I R) : J cu su pc ls (.ref a :: st) g I R := by
  obtain ⟨p, l, e, s, m, args, below, meth, c, n0, sb, D, kA, nE, Q, ⟨hx, hb, hml, hr, hown, hlk, hnm, hts, hK⟩, hz, rfl⟩ := hJ
  subst hq
  intro H locs lsA hg hP hS hL
  have he : (wl n0 kA g I R)[a]? = some (n0 + a, .inr (ci, fls n0 ci (I a) (R a))) := by rw [wl_get hk.1, cel_obj (by rw [hk.2]) hf.1]
  refine va_get (D := D) (ci := ci) (v := .int x) (C := cR ci) (T := cT ci) (N := cN ci) hx hb hts (cws_in hf.1) hown hK.1 hP a he (cl_at hf.1) k hf.2.1 (hts _ hf.2.2) (fun _ h9 => h9) ?_ hd (kk H locs lsA hg hP hS hL)
  rw [fls_get hf.2.1, if_pos ht, hv]
theorem q_getR (hJ : Ok Y Rm J) {a ci k idx : Nat} {x : Option Nat} {v : Value} (hd : decode Y.2.1 pc = .ok (.getfield idx, 3)) (hq : pc + 3 = q) (hf : FL Y.1.cls idx ci k) (ht : isI (cTy ci k) = false) (hk : KA g a ci 0) (hv : R a k = x) (hr2 : rr x = v) (kk : J cu su q ls (v :: st) g I R) : J cu su pc ls (.ref a :: st) g I R := by
  obtain ⟨p, l, e, s, m, args, below, meth, c, n0, sb, D, kA, nE, Q, ⟨hx, hb, hml, hr, hown, hlk, hnm, hts, hK⟩, hz, rfl⟩ := hJ
  subst hq
  intro H locs lsA hg hP hS hL
  have he : (wl n0 kA g I R)[a]? = some (n0 + a, .inr (ci, fls n0 ci (I a) (R a))) := by rw [wl_get hk.1, cel_obj (by rw [hk.2]) hf.1]
  refine va_get (D := D) (ci := ci) (v := sh n0 sb v) (C := cR ci) (T := cT ci) (N := cN ci) hx hb hts (cws_in hf.1) hown hK.1 hP a he (cl_at hf.1) k hf.2.1 (hts _ hf.2.2) (fun _ h9 => h9) ?_ hd (kk H locs lsA hg hP hS hL)
  rw [fls_get hf.2.1, if_neg (by rw [ht]; decide), hv, ← hr2, sh_rr]
theorem celI_set {n0 : Nat} {kA : Nat → ClassId} {a k ci : Nat} {x : Int32} (hc : ci < 12) (ht : isI (cTy ci k) = true) (hk : (g.2 a).1 = ci) : cel n0 kA g (up2 I a k x) R a = .inr (ci, (fls n0 ci (I a) (R a)).set k (.int x)) := by
  rw [cel_obj hk hc, fls_setI ht, up2_row]
theorem celR_set {n0 : Nat} {kA : Nat → ClassId} {a k ci : Nat} {x : Option Nat} (hc : ci < 12) (ht : isI (cTy ci k) = false) (hk : (g.2 a).1 = ci) : cel n0 kA g I (up2 R a k x) a = .inr (ci, (fls n0 ci (I a) (R a)).set k (rv n0 x)) := by
  rw [cel_obj hk hc, fls_setR ht, up2_row]
theorem cel_otherI {n0 : Nat} {kA : Nat → ClassId} {a k : Nat} {x : Int32} (b : Nat) (h : b ≠ a) : cel n0 kA g (up2 I a k x) R b = cel n0 kA g I R b := by
  simp only [cel, up2_other I a k x h]
theorem cel_otherR {n0 : Nat} {kA : Nat → ClassId} {a k : Nat} {x : Option Nat} (b : Nat) (h : b ≠ a) : cel n0 kA g I (up2 R a k x) b = cel n0 kA g I R b := by
  simp only [cel, up2_other R a k x h]
theorem q_putI (hJ : Ok Y Rm J) {a ci k idx : Nat} {x : Int32} (hd : decode Y.2.1 pc = .ok (.putfield idx, 3)) (hq : pc + 3 = q) (hf : FL Y.1.cls idx ci k) (hfin : (cT ci k).2.2.2 = false) (ht : isI (cTy ci k) = true) (hk : KA g a ci 0) (hn : narrow (cTy ci k) (.int x) = .int x) (hfit : fits (cTy ci k) (.int x) = true) (kk : J cu su q ls st g (up2 I a k x) R) : J cu su pc ls (.int x :: .ref a :: st) g I R := by
  obtain ⟨p, l, e, s, m, args, below, meth, c, n0, sb, D, kA, nE, Q, ⟨hx, hb, hml, hr, hown, hlk, hnm, hts, hK⟩, hz, rfl⟩ := hJ
  subst hq
  intro H locs lsA hg hP hS hL
  have he : (wl n0 kA g I R)[a]? = some (n0 + a, .inr (ci, fls n0 ci (I a) (R a))) := by rw [wl_get hk.1, cel_obj (by rw [hk.2]) hf.1]
  refine va_put (D := D) (ci := ci) (v := .int x) (C := cR ci) (T := cT ci) (N := cN ci) hx hb hts (cws_in hf.1) (cTy ci) (cty_ok hf.1) (cnm_ok hf.1) hown hK.1 hP (wl_D n0 kA g I R) hS a he (cl_at hf.1) k hf.2.1 (hts _ hf.2.2) (fun _ h9 => h9) hfin (cty_ok hf.1 k hf.2.1) hn hfit (by rw [fls_len]; exact hf.2.1) hd (fun H1 locs1 hP1 _ hS1 => ?_)
  rw [wl_set (celI_set (R := R) hf.1 ht (by rw [hk.2])) (fun b hb => cel_otherI b hb)] at hP1
  exact kk H1 locs1 lsA hg hP1 hS1 hL
theorem q_putFI (hJ : Ok Y Rm J) {a ci k idx : Nat} {x : Int32} (hd : decode Y.2.1 pc = .ok (.putfield idx, 3)) (hq : pc + 3 = q) (hf : FL Y.1.cls idx ci k) (hfin : (cT ci k).2.2.2 = true) (hinit : Y.1.name = "<init>") (hdecl : (cT ci k).1 = Y.1.cls) (ht : isI (cTy ci k) = true) (hk : KA g a ci 0) (hn : narrow (cTy ci k) (.int x) = .int x) (hfit : fits (cTy ci k) (.int x) = true) (kk : J cu su q ls st g (up2 I a k x) R) : J cu su pc ls (.int x :: .ref a :: st) g I R := by
  obtain ⟨p, l, e, s, m, args, below, meth, c, n0, sb, D, kA, nE, Q, ⟨hx, hb, hml, hr, hown, hlk, hnm, hts, hK⟩, hz, rfl⟩ := hJ
  subst hq
  intro H locs lsA hg hP hS hL
  have he : (wl n0 kA g I R)[a]? = some (n0 + a, .inr (ci, fls n0 ci (I a) (R a))) := by rw [wl_get hk.1, cel_obj (by rw [hk.2]) hf.1]
  refine va_putF (D := D) (ci := ci) (v := .int x) (C := cR ci) (T := cT ci) (N := cN ci) hx hb hts (cws_in hf.1) (cTy ci) (cty_ok hf.1) (cnm_ok hf.1) hown hK.1 hP (wl_D n0 kA g I R) hS a he (cl_at hf.1) k hf.2.1 (hts _ hf.2.2) (fun _ h9 => h9) hfin (by rw [hnm, hinit]) hdecl (cty_ok hf.1 k hf.2.1) hn hfit (by rw [fls_len]; exact hf.2.1) hd (fun H1 locs1 hP1 _ hS1 => ?_)
  rw [wl_set (celI_set (R := R) hf.1 ht (by rw [hk.2])) (fun b hb => cel_otherI b hb)] at hP1
  exact kk H1 locs1 lsA hg hP1 hS1 hL
theorem q_putFR (hJ : Ok Y Rm J) {a ci k idx : Nat} {x : Option Nat} {v : Value} (hd : decode Y.2.1 pc = .ok (.putfield idx, 3)) (hq : pc + 3 = q) (hf : FL Y.1.cls idx ci k) (hfin : (cT ci k).2.2.2 = true) (hinit : Y.1.name = "<init>") (hdecl : (cT ci k).1 = Y.1.cls) (ht : isI (cTy ci k) = false) (hk : KA g a ci 0) (hv : rr x = v) (kk : J cu su q ls st g I (up2 R a k x)) : J cu su pc ls (v :: .ref a :: st) g I R := by
  obtain ⟨p, l, e, s, m, args, below, meth, c, n0, sb, D, kA, nE, Q, ⟨hx, hb, hml, hr, hown, hlk, hnm, hts, hK⟩, hz, rfl⟩ := hJ
  subst hq
  intro H locs lsA hg hP hS hL
  have he : (wl n0 kA g I R)[a]? = some (n0 + a, .inr (ci, fls n0 ci (I a) (R a))) := by rw [wl_get hk.1, cel_obj (by rw [hk.2]) hf.1]
  have hrf : narrow (cTy ci k) (sh n0 sb v) = sh n0 sb v ∧ fits (cTy ci k) (sh n0 sb v) = true := by
    rw [← hv, sh_rr]
    cases hty : cTy ci k <;> rw [hty] at ht <;> first | (exact absurd ht (by decide)) | (cases x <;> exact ⟨rfl, rfl⟩)
  refine va_putF (D := D) (ci := ci) (v := sh n0 sb v) (C := cR ci) (T := cT ci) (N := cN ci) hx hb hts (cws_in hf.1) (cTy ci) (cty_ok hf.1) (cnm_ok hf.1) hown hK.1 hP (wl_D n0 kA g I R) hS a he (cl_at hf.1) k hf.2.1 (hts _ hf.2.2) (fun _ h9 => h9) hfin (by rw [hnm, hinit]) hdecl (cty_ok hf.1 k hf.2.1) hrf.1 hrf.2 (by rw [fls_len]; exact hf.2.1) hd (fun H1 locs1 hP1 _ hS1 => ?_)
  rw [← hv, sh_rr] at hP1
  rw [wl_set (celR_set (I := I) hf.1 ht (by rw [hk.2])) (fun b hb => cel_otherR b hb)] at hP1
  exact kk H1 locs1 lsA hg hP1 hS1 hL
theorem q_iald (hJ : Ok Y Rm J) {a n j : Nat} {i x : Int32} (hd : decode Y.2.1 pc = .ok (.iaload, 1)) (hq : pc + 1 = q) (hk : KA g a 13 n) (hi : ix i j n) (hv : I a j = x) (kk : J cu su q ls (.int x :: st) g I R) : J cu su pc ls (.int i :: .ref a :: st) g I R := by
  obtain ⟨p, l, e, s, m, args, below, meth, c, n0, sb, D, kA, nE, Q, ⟨hx, hb, hml, hr, hown, hlk, hnm, hts, hK⟩, hz, rfl⟩ := hJ
  subst hq
  intro H locs lsA hg hP hS hL
  have he : (wl n0 kA g I R)[a]? = some (n0 + a, .inl (kA 13, n, .inl (I a))) := by rw [wl_get hk.1, cel_ints hk.2 (by decide) (by decide)]
  have hkk := kk H locs lsA hg hP hS hL
  rw [← hv, ← hi.nat] at hkk
  exact va_iald hx hb hK.1 hP a 1 he rfl hi.in hd hkk
theorem q_zald (hJ : Ok Y Rm J) {a n j : Nat} {i x : Int32} (hd : decode Y.2.1 pc = .ok (.baload, 1)) (hq : pc + 1 = q) (hk : KA g a 14 n) (hi : ix i j n) (hv : I a j = x) (kk : J cu su q ls (.int x :: st) g I R) : J cu su pc ls (.int i :: .ref a :: st) g I R := by
  obtain ⟨p, l, e, s, m, args, below, meth, c, n0, sb, D, kA, nE, Q, ⟨hx, hb, hml, hr, hown, hlk, hnm, hts, hK⟩, hz, rfl⟩ := hJ
  subst hq
  intro H locs lsA hg hP hS hL
  have he : (wl n0 kA g I R)[a]? = some (n0 + a, .inl (kA 14, n, .inl (I a))) := by rw [wl_get hk.1, cel_ints hk.2 (by decide) (by decide)]
  have hkk := kk H locs lsA hg hP hS hL
  rw [← hv, ← hi.nat] at hkk
  exact va_zald hx hb hK.1 hP a 2 he rfl hi.in hd hkk
theorem q_cald (hJ : Ok Y Rm J) {a n j : Nat} {i x : Int32} (hd : decode Y.2.1 pc = .ok (.caload, 1)) (hq : pc + 1 = q) (hk : KA g a 12 n) (hi : ix i j n) (hv : I a j = x) (kk : J cu su q ls (.int x :: st) g I R) : J cu su pc ls (.int i :: .ref a :: st) g I R := by
  obtain ⟨p, l, e, s, m, args, below, meth, c, n0, sb, D, kA, nE, Q, ⟨hx, hb, hml, hr, hown, hlk, hnm, hts, hK⟩, hz, rfl⟩ := hJ
  subst hq
  intro H locs lsA hg hP hS hL
  have he : (wl n0 kA g I R)[a]? = some (n0 + a, .inl (kA 12, n, .inl (I a))) := by rw [wl_get hk.1, cel_ints hk.2 (by decide) (by decide)]
  have hkk := kk H locs lsA hg hP hS hL
  rw [← hv, ← hi.nat] at hkk
  exact va_cald hx hb hK.1 hP a 0 he rfl hi.in hd hkk
theorem q_iast (hJ : Ok Y Rm J) {a n j : Nat} {i x : Int32} (hd : decode Y.2.1 pc = .ok (.iastore, 1)) (hq : pc + 1 = q) (hk : KA g a 13 n) (hi : ix i j n) (kk : J cu su q ls st g (up2 I a j x) R) : J cu su pc ls (.int x :: .int i :: .ref a :: st) g I R := by
  obtain ⟨p, l, e, s, m, args, below, meth, c, n0, sb, D, kA, nE, Q, ⟨hx, hb, hml, hr, hown, hlk, hnm, hts, hK⟩, hz, rfl⟩ := hJ
  subst hq
  intro H locs lsA hg hP hS hL
  have he : (wl n0 kA g I R)[a]? = some (n0 + a, .inl (kA 13, n, .inl (I a))) := by rw [wl_get hk.1, cel_ints hk.2 (by decide) (by decide)]
  have hset : cel n0 kA g (up2 I a j x) R a = .inl (kA 13, n, .inl (upd (I a) i.toNatClampNeg x)) := by
    rw [cel_ints hk.2 (by decide) (by decide), up2_row, hi.nat]
    rfl
  exact va_iast hx hb hK.1 hP (wl_D n0 kA g I R) hS a 1 he rfl hi.in hd (fun H1 locs1 hP1 _ hS1 => by
    rw [wl_set hset (fun y hy => cel_otherI y hy)] at hP1
    exact kk H1 locs1 lsA hg hP1 hS1 hL)
theorem q_zast (hJ : Ok Y Rm J) {a n j : Nat} {i x : Int32} (hd : decode Y.2.1 pc = .ok (.bastore, 1)) (hq : pc + 1 = q) (hk : KA g a 14 n) (hi : ix i j n) (hn : vp_nar .boolean x = x) (kk : J cu su q ls st g (up2 I a j x) R) : J cu su pc ls (.int x :: .int i :: .ref a :: st) g I R := by
  obtain ⟨p, l, e, s, m, args, below, meth, c, n0, sb, D, kA, nE, Q, ⟨hx, hb, hml, hr, hown, hlk, hnm, hts, hK⟩, hz, rfl⟩ := hJ
  subst hq
  intro H locs lsA hg hP hS hL
  have he : (wl n0 kA g I R)[a]? = some (n0 + a, .inl (kA 14, n, .inl (I a))) := by rw [wl_get hk.1, cel_ints hk.2 (by decide) (by decide)]
  have hset : cel n0 kA g (up2 I a j x) R a = .inl (kA 14, n, .inl (upd (I a) i.toNatClampNeg x)) := by
    rw [cel_ints hk.2 (by decide) (by decide), up2_row, hi.nat]
    rfl
  exact va_zast hx hb hK.1 hP (wl_D n0 kA g I R) hS a 2 he rfl hi.in hd (fun H1 locs1 hP1 _ hS1 => by
    rw [hn] at hP1
    rw [wl_set hset (fun y hy => cel_otherI y hy)] at hP1
    exact kk H1 locs1 lsA hg hP1 hS1 hL)
theorem q_cast (hJ : Ok Y Rm J) {a n j : Nat} {i x : Int32} (hd : decode Y.2.1 pc = .ok (.castore, 1)) (hq : pc + 1 = q) (hk : KA g a 12 n) (hi : ix i j n) (hn : vp_nar .char x = x) (kk : J cu su q ls st g (up2 I a j x) R) : J cu su pc ls (.int x :: .int i :: .ref a :: st) g I R := by
  obtain ⟨p, l, e, s, m, args, below, meth, c, n0, sb, D, kA, nE, Q, ⟨hx, hb, hml, hr, hown, hlk, hnm, hts, hK⟩, hz, rfl⟩ := hJ
  subst hq
  intro H locs lsA hg hP hS hL
  have he : (wl n0 kA g I R)[a]? = some (n0 + a, .inl (kA 12, n, .inl (I a))) := by rw [wl_get hk.1, cel_ints hk.2 (by decide) (by decide)]
  have hset : cel n0 kA g (up2 I a j x) R a = .inl (kA 12, n, .inl (upd (I a) i.toNatClampNeg x)) := by
    rw [cel_ints hk.2 (by decide) (by decide), up2_row, hi.nat]
    rfl
  exact va_cast hx hb hK.1 hP (wl_D n0 kA g I R) hS a 0 he rfl hi.in hd (fun H1 locs1 hP1 _ hS1 => by
    rw [hn] at hP1
    rw [wl_set hset (fun y hy => cel_otherI y hy)] at hP1
    exact kk H1 locs1 lsA hg hP1 hS1 hL)

theorem tys_12 (kA : Nat → ClassId) : (tysOf kA)[0]? = some (kA 12, .char) := rfl
theorem q_aald (hJ : Ok Y Rm J) {a k n j : Nat} {i : Int32} {x : Option Nat} {v : Value} (hd : decode Y.2.1 pc = .ok (.aaload, 1)) (hq : pc + 1 = q) (hk : KA g a k n) (hk1 : k = 15 ∨ k = 16 ∨ k = 17) (hi : ix i j n) (hv : R a j = x) (hr2 : rr x = v) (kk : J cu su q ls (v :: st) g I R) : J cu su pc ls (.int i :: .ref a :: st) g I R := by
  obtain ⟨p, l, e, s, m, args, below, meth, c, n0, sb, D, kA, nE, Q, ⟨hx, hb, hml, hr, hown, hlk, hnm, hts, hK⟩, hz, rfl⟩ := hJ
  subst hq
  intro H locs lsA hg hP hS hL
  have he : (wl n0 kA g I R)[a]? = some (n0 + a, .inl (kA k, n, .inr (.inr (.inr (.inr (fun j => (R a j).map (n0 + ·))))))) := by rw [wl_get hk.1, cel_refs hk.2 (by omega)]
  have hkk := kk H locs lsA hg hP hS hL
  have hvv : va_rf ((R a i.toNatClampNeg).map (n0 + ·)) = sh n0 sb v := by
    rw [hi.nat, hv, ← hr2, sh_rr]
    cases x <;> rfl
  rw [List.map_cons, ← hvv] at hkk
  rcases hk1 with rfl | rfl | rfl
  · exact va_aldq hx hb hK.1 hP a 3 he rfl hi.in hd hkk
  · exact va_aldq hx hb hK.1 hP a 4 he rfl hi.in hd hkk
  · exact va_aldq hx hb hK.1 hP a 5 he rfl hi.in hd hkk
theorem q_aast (hJ : Ok Y Rm J) {a b k n j : Nat} {i : Int32} (hd : decode Y.2.1 pc = .ok (.aastore, 1)) (hq : pc + 1 = q) (hk : KA g a k n) (hk1 : (k = 15 ∧ KA g b 4 0) ∨ (k = 16 ∧ KA g b 5 0) ∨ (k = 17 ∧ KA g b 7 0)) (hi : ix i j n) (kk : J cu su q ls st g I (up2 R a j (some b))) : J cu su pc ls (.ref b :: .int i :: .ref a :: st) g I R := by
  obtain ⟨p, l, e, s, m, args, below, meth, c, n0, sb, D, kA, nE, Q, ⟨hx, hb, hml, hr, hown, hlk, hnm, hts, hK⟩, hz, rfl⟩ := hJ
  subst hq
  intro H locs lsA hg hP hS hL
  have he : (wl n0 kA g I R)[a]? = some (n0 + a, .inl (kA k, n, .inr (.inr (.inr (.inr (fun j => (R a j).map (n0 + ·))))))) := by rw [wl_get hk.1, cel_refs hk.2 (by omega)]
  have hset : cel n0 kA g I (up2 R a j (some b)) a = .inl (kA k, n, .inr (.inr (.inr (.inr (va_up (fun j => (R a j).map (n0 + ·)) i.toNatClampNeg (some (n0 + b))))))) := by
    rw [cel_refs hk.2 (by omega), up2_row, hi.nat]
    congr 7
    funext y
    by_cases hy : y = j
    · subst hy; simp [va_up]
    · simp [va_up, hy]
  have hev : ∀ ci : Nat, ci < 12 → KA g b ci 0 → (wl n0 kA g I R)[b]? = some (n0 + b, .inr (ci, fls n0 ci (I b) (R b))) := fun ci hc hkb => by rw [wl_get hkb.1, cel_obj (by rw [hkb.2]) hc]
  have hk2 : ∀ (H1 : Heap) (locs1 : List Loc), va_P D vwC ((wl n0 kA g I R).set a (n0 + a, .inl (kA k, n, .inr (.inr (.inr (.inr (va_up (fun j => (R a j).map (n0 + ·)) i.toNatClampNeg (some (n0 + b))))))))) H1 → va_D (fun q => n0 ≤ q) ((wl n0 kA g I R).set a (n0 + a, .inl (kA k, n, .inr (.inr (.inr (.inr (va_up (fun j => (R a j).map (n0 + ·)) i.toNatClampNeg (some (n0 + b))))))))) → va_S (fun q => n0 ≤ q) s.heap H1 locs1 → W p l e Rm s m args below meth c H1 locs1 cu su Q (F0 m (pc + 1) lsA (st.map (sh n0 sb))) := fun H1 locs1 hP1 _ hS1 => by
    rw [wl_set hset (fun y hy => cel_otherR y hy)] at hP1
    exact kk H1 locs1 lsA hg hP1 hS1 hL
  rcases hk1 with ⟨rfl, hkb⟩ | ⟨rfl, hkb⟩ | ⟨rfl, hkb⟩
  · exact va_astq (r := (RX4, TX4, 4)) hx hb hK.1 hP (wl_D n0 kA g I R) hS a 3 b 4 he rfl (hev 4 (by decide) hkb) rfl hi.in hd hk2
  · exact va_astq (r := (RX5, TX5, 12)) hx hb hK.1 hP (wl_D n0 kA g I R) hS a 4 b 5 he rfl (hev 5 (by decide) hkb) rfl hi.in hd hk2
  · exact va_astq (r := (RX7, TX7, 9)) hx hb hK.1 hP (wl_D n0 kA g I R) hS a 5 b 7 he rfl (hev 7 (by decide) hkb) rfl hi.in hd hk2
theorem q_alen (hJ : Ok Y Rm J) {a k n : Nat} {v : Int32} (hd : decode Y.2.1 pc = .ok (.arraylength, 1)) (hq : pc + 1 = q) (hk : KA g a k n) (hk1 : 12 ≤ k) (hk2 : k < 18) (hv : Int32.ofNat n = v) (kk : J cu su q ls (.int v :: st) g I R) : J cu su pc ls (.ref a :: st) g I R := by
  obtain ⟨p, l, e, s, m, args, below, meth, c, n0, sb, D, kA, nE, Q, ⟨hx, hb, hml, hr, hown, hlk, hnm, hts, hK⟩, hz, rfl⟩ := hJ
  subst hq
  intro H locs lsA hg hP hS hL
  have ht : ∃ (t0 : Nat) (ty : FieldType), (tysOf kA)[t0]? = some (kA k, ty) := by
    rcases (show k = 12 ∨ k = 13 ∨ k = 14 ∨ k = 15 ∨ k = 16 ∨ k = 17 by omega) with rfl | rfl | rfl | rfl | rfl | rfl
    · exact ⟨0, _, rfl⟩
    · exact ⟨1, _, rfl⟩
    · exact ⟨2, _, rfl⟩
    · exact ⟨3, _, rfl⟩
    · exact ⟨4, _, rfl⟩
    · exact ⟨5, _, rfl⟩
  obtain ⟨t0, ty, ht⟩ := ht
  have hkk := kk H locs lsA hg hP hS hL
  by_cases h : k < 15
  · exact va_alen hx hb hK.1 hP a t0 (x := (n, .inl (I a))) (by rw [wl_get hk.1, cel_ints hk.2 hk1 h]) ht hv hd hkk
  · exact va_alen hx hb hK.1 hP a t0 (x := (n, .inr (.inr (.inr (.inr (fun j => (R a j).map (n0 + ·))))))) (by rw [wl_get hk.1, cel_refs hk.2 (by omega)]) ht hv hd hkk
/-! answers -/
theorem q_iret {d mc ms nE : Nat} {Φ : Po} (hM : OkM Y d mc ms nE Φ J) {x : Int32} {ty : FieldType} (hd : decode Y.2.1 pc = .ok (.ireturn, 1)) (hty : Y.2.2.2 = some ty) (hn : narrow ty (.int x) = .int x) (h : Φ (some (.int x)) g I R) : J mc ms pc ls [.int x] g I R := by
  obtain ⟨p, l, e, s, m, args, below, meth, c, n0, sb, D, kA, ⟨hx, hb, hml, hr, hown, hlk, hnm, hts, hK⟩, hz, rfl⟩ := hM
  intro H locs lsA hg hP hS hL
  exact W.zret (v := x) (ty := ty) hx hb (by rw [hr, hty]) hn (fun t ht hW => ⟨⟨some (.int x), g, I, R, rfl, h, hg, by rw [ht]; exact hP⟩, hS.F ht⟩) hS.2.2 hd hlk
theorem q_vret {d mc ms nE : Nat} {Φ : Po} (hM : OkM Y d mc ms nE Φ J) (hd : decode Y.2.1 pc = .ok (.return_, 1)) (hty : Y.2.2.2 = none) (h : Φ none g I R) : J mc ms pc ls [] g I R := by
  obtain ⟨p, l, e, s, m, args, below, meth, c, n0, sb, D, kA, ⟨hx, hb, hml, hr, hown, hlk, hnm, hts, hK⟩, hz, rfl⟩ := hM
  intro H locs lsA hg hP hS hL
  exact W.vret hx hb (by rw [hr, hty]) (fun t ht hW => ⟨⟨none, g, I, R, rfl, h, hg, by rw [ht]; exact hP⟩, hS.F ht⟩) hS.2.2 hd hlk
theorem q_aret {d mc ms nE : Nat} {Φ : Po} (hM : OkM Y d mc ms nE Φ J) {v : Value} {nm : String} (hd : decode Y.2.1 pc = .ok (.areturn, 1)) (hty : Y.2.2.2 = some (.object nm)) (hv : isR v = true) (h : Φ (some v) g I R) : J mc ms pc ls [v] g I R := by
  obtain ⟨p, l, e, s, m, args, below, meth, c, n0, sb, D, kA, ⟨hx, hb, hml, hr, hown, hlk, hnm, hts, hK⟩, hz, rfl⟩ := hM
  intro H locs lsA hg hP hS hL
  exact W.aret (v := sh n0 sb v) hx hb (by rw [hr, hty]) (Or.inl ⟨nm, rfl⟩) (by rcases isR_cases hv n0 sb with h9 | h9; exact Or.inr h9; exact Or.inl h9) (fun t ht hW => ⟨⟨some v, g, I, R, rfl, h, hg, by rw [ht]; exact hP⟩, hS.F ht⟩) hS.2.2 hd hlk
end Mem
