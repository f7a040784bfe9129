/-! THE MODEL: rows put in, changed, taken out -/
theorem insP_spec (K : Nat → Int32) (key : Int32) (n : Nat) : (∀ t, insP K key n ≤ t → t < n → ¬ K t < key) ∧ (0 < insP K key n → K (insP K key n - 1) < key) := by
  induction n with
  | zero => exact ⟨fun t _ h => absurd h (Nat.not_lt_zero _), fun h => absurd h (Nat.lt_irrefl 0)⟩
  | succ n ih =>
    unfold insP
    split
    next h => exact ⟨fun t h1 h2 => absurd h1 (by omega), fun _ => h⟩
    next h =>
      refine ⟨fun t h1 h2 => ?_, ih.2⟩
      by_cases e : t = n
      · rw [e]; exact h
      · exact ih.1 t h1 (by omega)
theorem okK.below {K : Nat → Nat → Int32} {n : Nat} (ok : okK K n) (key : Int32) : ∀ t, t < insP (fun j => K j 0) key n → K t 0 < key := by
  intro t ht
  obtain ⟨s1, s2⟩ := insP_spec (fun j => K j 0) key n
  have hle := insP_le (fun j => K j 0) key n
  by_cases e : t = insP (fun j => K j 0) key n - 1
  · rw [e]; exact s2 (by omega)
  · exact Int32.lt_trans (ok.2 t _ (by omega) (by omega)) (s2 (by omega))
theorem okK.above {K : Nat → Nat → Int32} {n : Nat} {key : Int32} (hf : fndF (fun j => K j 0 = key) 0 n = none) : ∀ t, insP (fun j => K j 0) key n ≤ t → t < n → key < K t 0 := by
  intro t h1 h2
  have h3 := (insP_spec (fun j => K j 0) key n).1 t h1 h2
  exact Int32.lt_of_le_of_ne (Int32.not_lt.mp h3) (fun e => fndF_none hf t (Nat.zero_le _) (by omega) e.symm)
theorem okK.ins {K : Nat → Nat → Int32} {n : Nat} {img : Nat → Int32} (ok : okK K n) (hk : ∃ q, q < 100 ∧ img 0 = nI q) (hf : fndF (fun j => K j 0 = img 0) 0 n = none) : okK (insK K n img) (n + 1) := by
  have hb := ok.below (img 0)
  have ha := okK.above hf
  have hle := insP_le (fun j => K j 0) (img 0) n
  refine ⟨fun i hi => ?_, fun i j hij hj => ?_⟩
  · unfold insK
    by_cases h1 : i < insP (fun j => K j 0) (img 0) n
    · rw [if_pos h1]; exact ok.1 i (by omega)
    · rw [if_neg h1]
      by_cases h2 : i = insP (fun j => K j 0) (img 0) n
      · rw [if_pos h2]; exact hk
      · rw [if_neg h2]; exact ok.1 (i - 1) (by omega)
  · unfold insK
    generalize insP (fun j => K j 0) (img 0) n = s at *
    by_cases h1 : j < s
    · rw [if_pos h1, if_pos (by omega)]; exact ok.2 i j hij (by omega)
    · rw [if_neg h1]
      by_cases h2 : j = s
      · rw [if_pos h2, if_pos (by omega)]; exact hb i (by omega)
      · rw [if_neg h2]
        by_cases h3 : i < s
        · rw [if_pos h3]
          exact Int32.lt_trans (hb i h3) (ha (j - 1) (by omega) (by omega))
        · rw [if_neg h3]
          by_cases h4 : i = s
          · rw [if_pos h4]; exact ha (j - 1) (by omega) (by omega)
          · rw [if_neg h4]; exact ok.2 (i - 1) (j - 1) (by omega) (by omega)
theorem okK.put {K : Nat → Nat → Int32} {n i : Nat} {img : Nat → Int32} (ok : okK K n) (hi : img 0 = K i 0) : okK (putK K i img) n := by
  have e : ∀ t, putK K i img t 0 = K t 0 := fun t => by
    unfold putK
    by_cases h : t = i
    · rw [if_pos h, h]; exact hi
    · rw [if_neg h]
  exact ⟨fun t ht => by rw [e]; exact ok.1 t ht, fun a b hab hb => by rw [e, e]; exact ok.2 a b hab hb⟩
theorem okK.del {K : Nat → Nat → Int32} {n i : Nat} (ok : okK K n) (hi : i < n) : okK (delK K i) (n - 1) := by
  refine ⟨fun t ht => ?_, fun a b hab hb => ?_⟩
  · unfold delK
    by_cases h : t < i
    · rw [if_pos h]; exact ok.1 t (by omega)
    · rw [if_neg h]; exact ok.1 (t + 1) (by omega)
  · unfold delK
    by_cases h : b < i
    · rw [if_pos h, if_pos (by omega)]; exact ok.2 a b hab (by omega)
    · rw [if_neg h]
      by_cases h2 : a < i
      · rw [if_pos h2]; exact ok.2 a (b + 1) (by omega) (by omega)
      · rw [if_neg h2]; exact ok.2 (a + 1) (b + 1) (by omega) (by omega)
theorem RowQ.ins {M M' : Nat → Int32} {p : Nat} {K : Nat → Nat → Int32} {n : Nat} {img : Nat → Int32} (h : RowQ M p K n) (hn : n < 20) (hf : fndF (fun j => K j 0 = img 0) 0 n = Option.none) (h0 : M' (p + 0) = nI (n + 1)) (h1 : ∀ f, f < 4 → M' (p + 1 + 4 * n + f) = img f) (h2 : ∀ j, j < n → ∀ f, f < 4 → M' (p + 1 + 4 * j + f) = M (p + 1 + 4 * j + f)) : RowQ M' p (insK K n img) (n + 1) := by
  have hle := insP_le (fun j => K j 0) (img 0) n
  obtain ⟨g0, g1, g2, g3, g4⟩ := h
  have key : ∀ i, i < n → ∃ i', i' < n + 1 ∧ insK K n img i' = K i := fun i hi => by
    by_cases e : i < insP (fun j => K j 0) (img 0) n
    · exact ⟨i, by omega, by unfold insK; rw [if_pos e]⟩
    · exact ⟨i + 1, by omega, by unfold insK; rw [if_neg (by omega), if_neg (by omega)]; rfl⟩
  have keyn : insK K n img (insP (fun j => K j 0) (img 0) n) = img := by unfold insK; rw [if_neg (by omega), if_pos rfl]
  refine ⟨h0, by omega, fun i hi => ?_, fun j hj => ?_, fun i j hi hj e => ?_⟩
  · by_cases e1 : i < insP (fun j => K j 0) (img 0) n
    · obtain ⟨j, hj, he⟩ := g2 i (by omega)
      refine ⟨j, by omega, fun f hf4 => ?_⟩
      rw [h2 j hj f hf4, he f hf4]; unfold insK; rw [if_pos e1]
    · by_cases e2 : i = insP (fun j => K j 0) (img 0) n
      · exact ⟨n, by omega, fun f hf4 => by rw [h1 f hf4, e2, keyn]⟩
      · obtain ⟨j, hj, he⟩ := g2 (i - 1) (by omega)
        refine ⟨j, by omega, fun f hf4 => ?_⟩
        rw [h2 j hj f hf4, he f hf4]; unfold insK; rw [if_neg e1, if_neg e2]
  · by_cases e1 : j = n
    · exact ⟨insP (fun j => K j 0) (img 0) n, by omega, fun f hf4 => by rw [e1, h1 f hf4, keyn]⟩
    · obtain ⟨i, hi, he⟩ := g3 j (by omega)
      obtain ⟨i', hi', e'⟩ := key i hi
      exact ⟨i', hi', fun f hf4 => by rw [h2 j (by omega) f hf4, he f hf4, e']⟩
  · have hne : ∀ j, j < n → ¬ M (p + 1 + 4 * j) = img 0 := fun j hj z => by
      obtain ⟨i, hi, he⟩ := g3 j hj
      exact fndF_none hf i (Nat.zero_le _) (by omega) ((he 0 (by decide)).symm.trans z)
    have a0 : ∀ j, j < n → M' (p + 1 + 4 * j) = M (p + 1 + 4 * j) := fun j hj => h2 j hj 0 (by decide)
    have an : M' (p + 1 + 4 * n) = img 0 := h1 0 (by decide)
    by_cases e1 : i = n
    · by_cases e2 : j = n
      · rw [e1, e2]
      · rw [e1, an, a0 j (by omega)] at e
        exact absurd e.symm (hne j (by omega))
    · by_cases e2 : j = n
      · rw [e2, an, a0 i (by omega)] at e
        exact absurd e (hne i (by omega))
      · rw [a0 i (by omega), a0 j (by omega)] at e
        exact g4 i j (by omega) (by omega) e
theorem RowQ.put {M M' : Nat → Int32} {p : Nat} {K : Nat → Nat → Int32} {n i j : Nat} {img : Nat → Int32} (h : RowQ M p K n) (ok : okK K n) (hi : i < n) (hj : j < n) (he : ∀ f, f < 4 → M (p + 1 + 4 * j + f) = K i f) (hk : img 0 = K i 0) (h0 : M' (p + 0) = nI n) (h1 : ∀ f, f < 4 → M' (p + 1 + 4 * j + f) = img f) (h2 : ∀ t, t < n → t ≠ j → ∀ f, f < 4 → M' (p + 1 + 4 * t + f) = M (p + 1 + 4 * t + f)) : RowQ M' p (putK K i img) n := by
  obtain ⟨g0, g1, g2, g3, g4⟩ := h
  have a0 : ∀ t, t < n → M' (p + 1 + 4 * t) = M (p + 1 + 4 * t) := fun t ht => by
    by_cases e : t = j
    · rw [e]; exact (h1 0 (by decide)).trans (hk.trans (he 0 (by decide)).symm)
    · exact h2 t ht e 0 (by decide)
  have ji : ∀ t i', t < n → i' < n → (∀ f, f < 4 → M (p + 1 + 4 * t + f) = K i' f) → (t = j ↔ i' = i) := fun t i' ht hi' hh => by
    constructor
    · intro e; subst e
      exact ok.inj hi' hi ((hh 0 (by decide)).symm.trans (he 0 (by decide)))
    · intro e; subst e
      exact g4 t j ht hj ((hh 0 (by decide)).trans (he 0 (by decide)).symm)
  refine ⟨h0, g1, fun i' hi' => ?_, fun t ht => ?_, fun a b ha hb e => g4 a b ha hb (by rw [← a0 a ha, ← a0 b hb]; exact e)⟩
  · obtain ⟨t, ht, hh⟩ := g2 i' hi'
    refine ⟨t, ht, fun f hf => ?_⟩
    unfold putK
    by_cases e : t = j
    · rw [if_pos ((ji t i' ht hi' hh).mp e), e]; exact h1 f hf
    · rw [if_neg (fun z => e ((ji t i' ht hi' hh).mpr z)), h2 t ht e f hf]; exact hh f hf
  · obtain ⟨i', hi', hh⟩ := g3 t ht
    refine ⟨i', hi', fun f hf => ?_⟩
    unfold putK
    by_cases e : t = j
    · rw [if_pos ((ji t i' ht hi' hh).mp e), e]; exact h1 f hf
    · rw [if_neg (fun z => e ((ji t i' ht hi' hh).mpr z)), h2 t ht e f hf]; exact hh f hf
theorem RowQ.del {M M' : Nat → Int32} {p : Nat} {K : Nat → Nat → Int32} {n i j : Nat} (h : RowQ M p K n) (ok : okK K n) (hi : i < n) (hj : j < n) (he : ∀ f, f < 4 → M (p + 1 + 4 * j + f) = K i f) (h0 : M' (p + 0) = nI (n - 1)) (h1 : ∀ f, f < 4 → M' (p + 1 + 4 * j + f) = M (p + 1 + 4 * (n - 1) + f)) (h2 : ∀ t, t < n - 1 → t ≠ j → ∀ f, f < 4 → M' (p + 1 + 4 * t + f) = M (p + 1 + 4 * t + f)) : RowQ M' p (delK K i) (n - 1) := by
  obtain ⟨g0, g1, g2, g3, g4⟩ := h
  have ji : ∀ t i', t < n → i' < n → (∀ f, f < 4 → M (p + 1 + 4 * t + f) = K i' f) → (t = j ↔ i' = i) := fun t i' ht hi' hh => by
    constructor
    · intro e; subst e
      exact ok.inj hi' hi ((hh 0 (by decide)).symm.trans (he 0 (by decide)))
    · intro e; subst e
      exact g4 t j ht hj ((hh 0 (by decide)).trans (he 0 (by decide)).symm)
  have src : ∀ t, t < n - 1 → ∃ s, s < n ∧ s ≠ j ∧ (t = j ∧ s = n - 1 ∨ t ≠ j ∧ s = t) ∧ ∀ f, f < 4 → M' (p + 1 + 4 * t + f) = M (p + 1 + 4 * s + f) := fun t ht => by
    by_cases e : t = j
    · exact ⟨n - 1, by omega, by omega, Or.inl ⟨e, rfl⟩, fun f hf => by rw [e]; exact h1 f hf⟩
    · exact ⟨t, by omega, e, Or.inr ⟨e, rfl⟩, fun f hf => h2 t ht e f hf⟩
  have dst : ∀ s, s < n → s ≠ j → ∃ t, t < n - 1 ∧ ∀ f, f < 4 → M' (p + 1 + 4 * t + f) = M (p + 1 + 4 * s + f) := fun s hs e => by
    by_cases e1 : s = n - 1
    · exact ⟨j, by omega, fun f hf => by rw [e1]; exact h1 f hf⟩
    · exact ⟨s, by omega, fun f hf => h2 s (by omega) e f hf⟩
  refine ⟨h0, by omega, fun i' hi' => ?_, fun t ht => ?_, fun a b ha hb e => ?_⟩
  · have hx : ∃ i0, i0 < n ∧ i0 ≠ i ∧ delK K i i' = K i0 := by
      unfold delK
      by_cases c : i' < i
      · exact ⟨i', by omega, by omega, by rw [if_pos c]⟩
      · exact ⟨i' + 1, by omega, by omega, by rw [if_neg c]⟩
    obtain ⟨i0, q1, q2, q3⟩ := hx
    obtain ⟨s, hs, hh⟩ := g2 i0 q1
    obtain ⟨t, ht, hm⟩ := dst s hs (fun z => q2 ((ji s i0 hs q1 hh).mp z))
    exact ⟨t, ht, fun f hf => by rw [hm f hf, q3]; exact hh f hf⟩
  · obtain ⟨s, hs, hsj, _, hm⟩ := src t ht
    obtain ⟨i0, q1, hh⟩ := g3 s hs
    have q2 : i0 ≠ i := fun z => hsj ((ji s i0 hs q1 hh).mpr z)
    by_cases c : i0 < i
    · exact ⟨i0, by omega, fun f hf => by rw [hm f hf]; unfold delK; rw [if_pos c]; exact hh f hf⟩
    · refine ⟨i0 - 1, by omega, fun f hf => ?_⟩
      rw [hm f hf]; unfold delK; rw [if_neg (by omega), show i0 - 1 + 1 = i0 by omega]; exact hh f hf
  · obtain ⟨s1, a1, _, a3, a4⟩ := src a ha
    obtain ⟨s2, b1, _, b3, b4⟩ := src b hb
    have es : s1 = s2 := g4 s1 s2 a1 b1 (by
      have x1 := a4 0 (by decide)
      have x2 := b4 0 (by decide)
      exact x1.symm.trans (e.trans x2))
    omega
/-- cells of one array, written from b on -/
def fw (I : MI) (c b : Nat) (g : Nat → Int32) (n : Nat) : MI := fun c' i => if c' = c ∧ b ≤ i ∧ i < b + n then g (i - b) else I c' i
theorem fw_0 (I : MI) (c b : Nat) (g : Nat → Int32) : fw I c b g 0 = I := by
  funext c' i
  exact if_neg (fun z => by omega)
theorem fw_step {I : MI} {c b : Nat} {g : Nat → Int32} {n : Nat} : up2 (fw I c b g n) c (b + n) (g n) = fw I c b g (n + 1) := by
  funext c' i
  rw [up2_app]
  unfold fw
  by_cases h : c' = c ∧ i = b + n
  · rw [if_pos h, if_pos ⟨h.1, by omega, by omega⟩, h.2]; congr 1; omega
  · rw [if_neg h]
    by_cases h2 : c' = c ∧ b ≤ i ∧ i < b + n
    · rw [if_pos h2, if_pos ⟨h2.1, h2.2.1, by omega⟩]
    · rw [if_neg h2, if_neg (fun z => by
        refine h2 ⟨z.1, z.2.1, ?_⟩
        have : ¬ i = b + n := fun e => h ⟨z.1, e⟩
        omega)]
theorem fw_o {I : MI} {c b : Nat} {g : Nat → Int32} {n a : Nat} (h : a ≠ c) : fw I c b g n a = I a := by
  funext j; exact if_neg (fun z => h z.1)
theorem fw_out {I : MI} {c b : Nat} {g : Nat → Int32} {n i : Nat} (h : i < b ∨ b + n ≤ i) : fw I c b g n c i = I c i := if_neg (fun z => by omega)
theorem fw_in {I : MI} {c b : Nat} {g : Nat → Int32} {n i : Nat} (h : i < n) : fw I c b g n c (b + i) = g i := by
  unfold fw
  rw [if_pos ⟨rfl, by omega, by omega⟩]
  congr 1; omega
