/-! ORDER OF RULES; rows put in, changed, taken out (as in the whole claim) -/
def cnP (p : Nat → Prop) [DecidablePred p] : Nat → Nat
  | 0 => 0
  | n + 1 => cnP p n + (if p n then 1 else 0)
theorem cnP_le (p : Nat → Prop) [DecidablePred p] (n : Nat) : cnP p n ≤ n := by
  induction n with
  | zero => exact Nat.le_refl 0
  | succ n ih => unfold cnP; split <;> omega
theorem cnP_mono (p : Nat → Prop) [DecidablePred p] {a b : Nat} (h : a ≤ b) : cnP p a ≤ cnP p b := by
  induction b with
  | zero => rw [Nat.le_zero.mp h]; exact Nat.le_refl _
  | succ b ih =>
    by_cases e : a = b + 1
    · rw [e]; exact Nat.le_refl _
    · exact Nat.le_trans (ih (by omega)) (by show cnP p b ≤ cnP p b + _; omega)
theorem cnP_congr {p q : Nat → Prop} [DecidablePred p] [DecidablePred q] {n : Nat} (h : ∀ t, t < n → (p t ↔ q t)) : cnP p n = cnP q n := by
  induction n with
  | zero => rfl
  | succ n ih =>
    show cnP p n + (if p n then 1 else 0) = cnP q n + (if q n then 1 else 0)
    rw [ih (fun t ht => h t (by omega))]
    by_cases hp : p n
    · rw [if_pos hp, if_pos ((h n (by omega)).mp hp)]
    · rw [if_neg hp, if_neg (fun z => hp ((h n (by omega)).mpr z))]
/-- the order with one more put in -/
def insN (f : Nat → Nat) (s x : Nat) : Nat → Nat := fun t => if t < s then f t else if t = s then x else f (t - 1)
theorem cnP_ins (p : Nat → Prop) [DecidablePred p] (f : Nat → Nat) (s x : Nat) (n : Nat) (hs : s ≤ n) : cnP (fun t => p (insN f s x t)) (n + 1) = cnP (fun t => p (f t)) n + (if p x then 1 else 0) := by
  induction n with
  | zero =>
    have e : s = 0 := Nat.le_zero.mp hs
    subst e
    rfl
  | succ n ih =>
    show cnP (fun t => p (insN f s x t)) (n + 1) + (if p (insN f s x (n + 1)) then 1 else 0) = cnP (fun t => p (f t)) n + (if p (f n) then 1 else 0) + (if p x then 1 else 0)
    by_cases e : s = n + 1
    · have e1 : insN f s x (n + 1) = x := by unfold insN; rw [if_neg (by omega), if_pos (by omega)]
      have e2 : cnP (fun t => p (insN f s x t)) (n + 1) = cnP (fun t => p (f t)) (n + 1) := cnP_congr fun t ht => by
        have : insN f s x t = f t := by unfold insN; rw [if_pos (by omega)]
        rw [this]
      rw [e1, e2]
      rfl
    · have e1 : insN f s x (n + 1) = f n := by unfold insN; rw [if_neg (by omega), if_neg (by omega)]; rfl
      rw [e1, ih (by omega)]
      omega
theorem osrt_ins (rk : Nat → Int32) (k : Nat) : osrt rk (k + 1) = insN (osrt rk k) (insR rk (osrt rk k) (rk k) k) k := rfl
theorem osrt_cnt (rk : Nat → Int32) (p : Nat → Prop) [DecidablePred p] (m : Nat) : cnP (fun t => p (osrt rk m t)) m = cnP p m := by
  induction m with
  | zero => rfl
  | succ m ih =>
    rw [osrt_ins]
    rw [cnP_ins p (osrt rk m) _ m m (insR_le _ _ _ _), ih]
    rfl
abbrev lexR (rk : Nat → Int32) (q r : Nat) : Prop := rk q < rk r ∨ (rk q = rk r ∧ q < r)
theorem insR_spec (rk : Nat → Int32) (o : Nat → Nat) (x : Int32) (n : Nat) : (∀ t, insR rk o x n ≤ t → t < n → x < rk (o t)) ∧ (0 < insR rk o x n → ¬ x < rk (o (insR rk o x n - 1))) := by
  induction n with
  | zero => exact ⟨fun t _ h => absurd h (Nat.not_lt_zero _), fun h => absurd h (Nat.lt_irrefl 0)⟩
  | succ n ih =>
    unfold insR
    split
    next h =>
      refine ⟨fun t h1 h2 => ?_, ih.2⟩
      by_cases e : t = n
      · rw [e]; exact h
      · exact ih.1 t h1 (by omega)
    next h => exact ⟨fun t h1 h2 => absurd h1 (by omega), fun _ => h⟩
theorem osrt_lex (rk : Nat → Int32) (m : Nat) : ∀ t u, t < u → u < m → lexR rk (osrt rk m t) (osrt rk m u) := by
  induction m with
  | zero => exact fun t u _ h => absurd h (Nat.not_lt_zero _)
  | succ m ih =>
    intro t u htu hu
    obtain ⟨s1, s2⟩ := insR_spec rk (osrt rk m) (rk m) m
    have hle := insR_le rk (osrt rk m) (rk m) m
    rw [osrt_ins]
    unfold insN
    generalize hs : insR rk (osrt rk m) (rk m) m = s at *
    by_cases h1 : u < s
    · rw [if_pos h1, if_pos (by omega)]; exact ih t u htu (by omega)
    · rw [if_neg h1]
      by_cases h2 : u = s
      · rw [if_pos h2, if_pos (by omega)]
        have hl := osrt_lt rk m t (by omega)
        have hle2 : rk (osrt rk m t) ≤ rk m := by
          have h0 := Int32.not_lt.mp (s2 (by omega))
          by_cases e : t = s - 1
          · rw [e]; exact h0
          · rcases ih t (s - 1) (by omega) (by omega) with z | z
            · exact Int32.le_trans (Int32.le_of_lt z) h0
            · rw [z.1]; exact h0
        by_cases e : rk (osrt rk m t) = rk m
        · exact Or.inr ⟨e, hl⟩
        · exact Or.inl (Int32.lt_of_le_of_ne hle2 e)
      · rw [if_neg h2]
        by_cases h3 : t < s
        · rw [if_pos h3]; exact ih t (u - 1) (by omega) (by omega)
        · rw [if_neg h3]
          by_cases h4 : t = s
          · rw [if_pos h4]
            exact Or.inl (s1 (u - 1) (by omega) (by omega))
          · rw [if_neg h4]; exact ih (t - 1) (u - 1) (by omega) (by omega)
theorem lexR_asym {rk : Nat → Int32} {q r : Nat} (h : lexR rk q r) : ¬ lexR rk r q := by
  intro z
  rcases h with h | h <;> rcases z with z | z
  · exact Int32.lt_asymm h z
  · rw [z.1] at h; exact Int32.lt_irrefl h
  · rw [h.1] at z; exact Int32.lt_irrefl z
  · omega
theorem lexR_irr {rk : Nat → Int32} {q : Nat} : ¬ lexR rk q q := fun h => lexR_asym h h
/-- those ahead of the rule at the place t are those at the places before it -/
theorem ahead_cnt (rk : Nat → Int32) (p : Nat → Prop) [DecidablePred p] (m t : Nat) (ht : t < m) : cnP (fun q => p q ∧ lexR rk q (osrt rk m t)) m = cnP (fun u => p (osrt rk m u)) t := by
  rw [← osrt_cnt rk (fun q => p q ∧ lexR rk q (osrt rk m t)) m]
  have key : ∀ n, t ≤ n → n ≤ m → cnP (fun u => p (osrt rk m u) ∧ lexR rk (osrt rk m u) (osrt rk m t)) n = cnP (fun u => p (osrt rk m u)) t := by
    intro n h1 h2
    induction n with
    | zero => rw [Nat.le_zero.mp h1]; rfl
    | succ n ih =>
      by_cases e : t = n + 1
      · rw [e]
        refine cnP_congr fun u hu => ⟨fun z => z.1, fun z => ⟨z, ?_⟩⟩
        rw [← e]
        exact osrt_lex rk m u t (by omega) ht
      · show cnP _ n + (if _ then 1 else 0) = _
        rw [ih (by omega) (by omega), if_neg]
        · rfl
        · intro z
          by_cases e2 : t = n
          · rw [e2] at z; exact lexR_irr z.2
          · exact lexR_asym z.2 (osrt_lex rk m t n (by omega) (by omega))
  exact key m (by omega) (Nat.le_refl m)
theorem osrt_onto (rk : Nat → Int32) (m r : Nat) (hr : r < m) : ∃ t, t < m ∧ osrt rk m t = r := by
  have h : cnP (fun t => osrt rk m t = r) m = cnP (fun q => q = r) m := osrt_cnt rk (fun q => q = r) m
  have h1 : ∀ n, r < n → cnP (fun q => q = r) n = 1 := by
    have h0 : ∀ n, n ≤ r → cnP (fun q => q = r) n = 0 := fun n => by
      induction n with
      | zero => exact fun _ => rfl
      | succ n ih => exact fun hn => by show cnP _ n + (if n = r then 1 else 0) = 0; rw [ih (by omega), if_neg (by omega)]
    intro n
    induction n with
    | zero => exact fun z => absurd z (Nat.not_lt_zero _)
    | succ n ih =>
      intro hn
      show cnP _ n + (if n = r then 1 else 0) = 1
      by_cases e : n = r
      · rw [h0 n (by omega), if_pos e]
      · rw [ih (by omega), if_neg e]
  rw [h1 m hr] at h
  have h2 : ∀ n, 0 < cnP (fun t => osrt rk m t = r) n → ∃ t, t < n ∧ osrt rk m t = r := fun n => by
    induction n with
    | zero => exact fun z => absurd z (Nat.lt_irrefl 0)
    | succ n ih =>
      intro z
      by_cases e : osrt rk m n = r
      · exact ⟨n, by omega, e⟩
      · have z2 : 0 < cnP (fun t => osrt rk m t = r) n + (if osrt rk m n = r then 1 else 0) := z
        rw [if_neg e] at z2
        obtain ⟨t, h3, h4⟩ := ih z2
        exact ⟨t, by omega, h4⟩
  exact h2 m (by omega)
theorem amF_from (p : Nat → Prop) [DecidablePred p] (od : Nat → Nat) (m j c : Nat) (hj : j ≤ m) (hm : m ≤ 12) (hc : cnP (fun t => p (od t)) j = c) : amF p od (nI c) 0 m 0 = amF p od (nI c) j (m - j) c := by
  have key : ∀ i, i ≤ j → amF p od (nI c) 0 m 0 = amF p od (nI c) i (m - i) (cnP (fun t => p (od t)) i) := by
    intro i
    induction i with
    | zero => exact fun _ => rfl
    | succ i ih =>
      intro hi
      rw [ih (by omega), show m - i = (m - (i + 1)) + 1 by omega]
      show (if p (od i) then (if nI (cnP (fun t => p (od t)) i) = nI c then some (od i) else amF p od (nI c) (i + 1) (m - (i + 1)) (cnP (fun t => p (od t)) i + 1)) else amF p od (nI c) (i + 1) (m - (i + 1)) (cnP (fun t => p (od t)) i)) = amF p od (nI c) (i + 1) (m - (i + 1)) (cnP (fun t => p (od t)) i + (if p (od i) then 1 else 0))
      by_cases hp : p (od i)
      · rw [if_pos hp, if_pos hp, if_neg]
        intro z
        have hm1 : cnP (fun t => p (od t)) (i + 1) ≤ c := hc ▸ cnP_mono _ hi
        have hm2 : cnP (fun t => p (od t)) (i + 1) = cnP (fun t => p (od t)) i + 1 := by
          show cnP _ i + (if p (od i) then 1 else 0) = _
          rw [if_pos hp]
        have := cnP_le (fun t => p (od t)) j
        have := (nI_eq (by omega) (by omega)).mp z
        omega
      · rw [if_neg hp, if_neg hp]; rfl
  rw [key j (Nat.le_refl j), hc]
theorem amF_some {p : Nat → Prop} [DecidablePred p] {od : Nat → Nat} {w : Int32} {j k c r : Nat} (h : amF p od w j k c = some r) : ∃ t, j ≤ t ∧ t < j + k ∧ od t = r ∧ p r ∧ nI (c + (cnP (fun u => p (od u)) t - cnP (fun u => p (od u)) j)) = w := by
  induction k generalizing j c with
  | zero => exact absurd h (by simp [amF])
  | succ k ih =>
    unfold amF at h
    have mono : ∀ t, j + 1 ≤ t → cnP (fun u => p (od u)) (j + 1) ≤ cnP (fun u => p (od u)) t := fun t ht => cnP_mono _ ht
    have es : cnP (fun u => p (od u)) (j + 1) = cnP (fun u => p (od u)) j + (if p (od j) then 1 else 0) := rfl
    split at h
    next hp =>
      rw [if_pos hp] at es
      split at h
      next hw => exact ⟨j, Nat.le_refl _, by omega, Option.some.inj h, Option.some.inj h ▸ hp, by rw [Nat.sub_self]; exact hw⟩
      next hw =>
        obtain ⟨t, h1, h2, h3, h4, h5⟩ := ih h
        have := mono t h1
        exact ⟨t, by omega, by omega, h3, h4, by rw [← h5]; congr 1; omega⟩
    next hp =>
      rw [if_neg hp] at es
      obtain ⟨t, h1, h2, h3, h4, h5⟩ := ih h
      exact ⟨t, by omega, by omega, h3, h4, by rw [← h5, es]; rfl⟩
theorem amF_none {p : Nat → Prop} [DecidablePred p] {od : Nat → Nat} {w : Int32} {j k c : Nat} (h : amF p od w j k c = none) : ∀ t, j ≤ t → t < j + k → p (od t) → ¬ nI (c + (cnP (fun u => p (od u)) t - cnP (fun u => p (od u)) j)) = w := by
  induction k generalizing j c with
  | zero => exact fun t h1 h2 => absurd h2 (by omega)
  | succ k ih =>
    intro t h1 h2 hp hw
    have es : cnP (fun u => p (od u)) (j + 1) = cnP (fun u => p (od u)) j + (if p (od j) then 1 else 0) := rfl
    unfold amF at h
    by_cases e : t = j
    · subst e
      rw [if_pos hp] at h
      rw [Nat.sub_self, Nat.add_zero] at hw
      rw [if_pos hw] at h
      exact absurd h (by simp)
    · have mono : cnP (fun u => p (od u)) (j + 1) ≤ cnP (fun u => p (od u)) t := cnP_mono _ (by omega)
      split at h
      next hpj =>
        rw [if_pos hpj] at es
        split at h
        next => exact absurd h (by simp)
        next => exact ih h t (by omega) (by omega) hp (by rw [← hw]; congr 1; omega)
      next hpj =>
        rw [if_neg hpj] at es
        exact ih h t (by omega) (by omega) hp (by rw [← hw, es]; rfl)
/-- the rule at a place, found by counting those ahead -/
theorem order_eq (rk : Nat → Int32) (p : Nat → Prop) [DecidablePred p] (w : Int32) (m : Nat) (hm : m ≤ 12) : fndF (fun r => p r ∧ nI (cnP (fun q => p q ∧ lexR rk q r) m) = w) 0 m = amF p (osrt rk m) w 0 m 0 := by
  rcases hA : amF p (osrt rk m) w 0 m 0 with _ | r
  · rcases hF : fndF (fun r => p r ∧ nI (cnP (fun q => p q ∧ lexR rk q r) m) = w) 0 m with _ | r
    · rfl
    · obtain ⟨h1, h2, ⟨h3, h4⟩, h5⟩ := fndF_some hF
      obtain ⟨t, ht, he⟩ := osrt_onto rk m r (by omega)
      have hn := amF_none hA t (Nat.zero_le _) (by omega) (by rw [he]; exact h3)
      rw [← he, ahead_cnt rk p m t ht] at h4
      exact absurd (by rw [← h4]; congr 1; show 0 + (_ - 0) = _; omega) hn
  · obtain ⟨t, h1, h2, h3, h4, h5⟩ := amF_some hA
    have h6 : nI (cnP (fun q => p q ∧ lexR rk q r) m) = w := by
      rw [← h3, ahead_cnt rk p m t (by omega), ← h5]
      congr 1
      show _ = 0 + (_ - 0)
      omega
    have hr : r < m := h3 ▸ osrt_lt rk m t (by omega)
    rcases hF : fndF (fun r => p r ∧ nI (cnP (fun q => p q ∧ lexR rk q r) m) = w) 0 m with _ | r'
    · exact absurd ⟨h4, h6⟩ (fndF_none hF r (Nat.zero_le _) (by omega))
    · obtain ⟨g1, g2, ⟨g3, g4⟩, g5⟩ := fndF_some hF
      obtain ⟨t', ht', he'⟩ := osrt_onto rk m r' (by omega)
      have c1 : nI (cnP (fun u => p (osrt rk m u)) t') = nI (cnP (fun u => p (osrt rk m u)) t) := by
        rw [← he', ahead_cnt rk p m t' ht'] at g4
        rw [← h3, ahead_cnt rk p m t (by omega)] at h6
        rw [g4, h6]
      have l1 := cnP_le (fun u => p (osrt rk m u)) t'
      have l2 := cnP_le (fun u => p (osrt rk m u)) t
      have c2 := (nI_eq (by omega) (by omega)).mp c1
      have strict : ∀ a b, a < b → p (osrt rk m a) → cnP (fun u => p (osrt rk m u)) a < cnP (fun u => p (osrt rk m u)) b := fun a b hab hp => by
        have := cnP_mono (fun u => p (osrt rk m u)) (show a + 1 ≤ b from hab)
        have es : cnP (fun u => p (osrt rk m u)) (a + 1) = cnP (fun u => p (osrt rk m u)) a + (if p (osrt rk m a) then 1 else 0) := rfl
        rw [if_pos hp] at es
        omega
      have et : t' = t := by
        rcases Nat.lt_trichotomy t' t with z | z | z
        · have := strict t' t z (by rw [he']; exact g3); omega
        · exact z
        · have := strict t t' z (by rw [h3]; exact h4); omega
      rw [← he', ← h3, et]
def okK (K : Nat → Nat → Int32) (n : Nat) : Prop := (∀ i, i < n → ∃ q, q < 100 ∧ K i 0 = nI q) ∧ ∀ i j, i < j → j < n → K i 0 < K j 0
def okRu (u : Nat → Int32) : Prop := (inR (u 0) 0 2 = 1 ∧ inR (u 1) 0 1 = 1 ∧ (∃ q, q < 100 ∧ u 2 = nI q) ∧ kindF (u 1) (u 3) = 1) ∧ (inR (u 4) 0 2 = 1 ∧ inR (u 5) 0 3 = 1 ∧ inR (u 7) 0 3 = 1 ∧ inR (u 8) 0 5 = 1) ∧ (u 10 = 0 ∨ u 10 = 1)
def okM (A : AS) : Prop := okK (aK A) (aN A) ∧ (∀ r, r < aM A → okRu (aU A r)) ∧ ∃ G, 1 ≤ G ∧ G ≤ 8 ∧ aS A 0 = nI G
theorem in_03 {x : Int32} (h : inR x 0 3 = 1) : x = 0 ∨ x = 1 ∨ x = 2 ∨ x = 3 := by
  obtain ⟨h1, h2⟩ := inR_iff (fun z => absurd (h.symm.trans z) (by decide))
  obtain ⟨j, hj, rfl⟩ := nI_of2 (M := 3) (n := 3) rfl h1 (Int32.not_lt.mp h2)
  rcases (show j = 0 ∨ j = 1 ∨ j = 2 ∨ j = 3 by omega) with rfl | rfl | rfl | rfl
  · exact Or.inl rfl
  · exact Or.inr (Or.inl rfl)
  · exact Or.inr (Or.inr (Or.inl rfl))
  · exact Or.inr (Or.inr (Or.inr rfl))
theorem in_02 {x : Int32} (h : inR x 0 2 = 1) : x = 0 ∨ x = 1 ∨ x = 2 := by
  obtain ⟨h1, h2⟩ := inR_iff (fun z => absurd (h.symm.trans z) (by decide))
  obtain ⟨j, hj, rfl⟩ := nI_of2 (M := 2) (n := 2) rfl h1 (Int32.not_lt.mp h2)
  rcases (show j = 0 ∨ j = 1 ∨ j = 2 by omega) with rfl | rfl | rfl
  · exact Or.inl rfl
  · exact Or.inr (Or.inl rfl)
  · exact Or.inr (Or.inr rfl)
theorem insP_spec (K : Nat → Int32) (key : Int32) (n : Nat) : (∀ t, insP K key n ≤ t → t < n → ¬ K t < key) ∧ (0 < insP K key n → K (insP K key n - 1) < key) := by
  induction n with
  | zero => exact ⟨fun t _ h => absurd h (Nat.not_lt_zero _), fun h => absurd h (Nat.lt_irrefl 0)⟩
  | succ n ih =>
    unfold insP
    split
    next h => exact ⟨fun t h1 h2 => absurd h1 (by omega), fun _ => h⟩
    next h =>
      refine ⟨fun t h1 h2 => ?_, ih.2⟩
      by_cases e : t = n
      · rw [e]; exact h
      · exact ih.1 t h1 (by omega)
theorem okK.below {K : Nat → Nat → Int32} {n : Nat} (ok : okK K n) (key : Int32) : ∀ t, t < insP (fun j => K j 0) key n → K t 0 < key := by
  intro t ht
  obtain ⟨s1, s2⟩ := insP_spec (fun j => K j 0) key n
  have hle := insP_le (fun j => K j 0) key n
  by_cases e : t = insP (fun j => K j 0) key n - 1
  · rw [e]; exact s2 (by omega)
  · exact Int32.lt_trans (ok.2 t _ (by omega) (by omega)) (s2 (by omega))
theorem okK.above {K : Nat → Nat → Int32} {n : Nat} {key : Int32} (hf : fndF (fun j => K j 0 = key) 0 n = none) : ∀ t, insP (fun j => K j 0) key n ≤ t → t < n → key < K t 0 := by
  intro t h1 h2
  have h3 := (insP_spec (fun j => K j 0) key n).1 t h1 h2
  exact Int32.lt_of_le_of_ne (Int32.not_lt.mp h3) (fun e => fndF_none hf t (Nat.zero_le _) (by omega) e.symm)
theorem okK.ins {K : Nat → Nat → Int32} {n : Nat} {img : Nat → Int32} (ok : okK K n) (hk : ∃ q, q < 100 ∧ img 0 = nI q) (hf : fndF (fun j => K j 0 = img 0) 0 n = none) : okK (insK K n img) (n + 1) := by
  have hb := ok.below (img 0)
  have ha := okK.above hf
  have hle := insP_le (fun j => K j 0) (img 0) n
  refine ⟨fun i hi => ?_, fun i j hij hj => ?_⟩
  · unfold insK
    by_cases h1 : i < insP (fun j => K j 0) (img 0) n
    · rw [if_pos h1]; exact ok.1 i (by omega)
    · rw [if_neg h1]
      by_cases h2 : i = insP (fun j => K j 0) (img 0) n
      · rw [if_pos h2]; exact hk
      · rw [if_neg h2]; exact ok.1 (i - 1) (by omega)
  · unfold insK
    generalize insP (fun j => K j 0) (img 0) n = s at *
    by_cases h1 : j < s
    · rw [if_pos h1, if_pos (by omega)]; exact ok.2 i j hij (by omega)
    · rw [if_neg h1]
      by_cases h2 : j = s
      · rw [if_pos h2, if_pos (by omega)]; exact hb i (by omega)
      · rw [if_neg h2]
        by_cases h3 : i < s
        · rw [if_pos h3]
          exact Int32.lt_trans (hb i h3) (ha (j - 1) (by omega) (by omega))
        · rw [if_neg h3]
          by_cases h4 : i = s
          · rw [if_pos h4]; exact ha (j - 1) (by omega) (by omega)
          · rw [if_neg h4]; exact ok.2 (i - 1) (j - 1) (by omega) (by omega)
theorem okK.put {K : Nat → Nat → Int32} {n i : Nat} {img : Nat → Int32} (ok : okK K n) (hi : img 0 = K i 0) : okK (putK K i img) n := by
  have e : ∀ t, putK K i img t 0 = K t 0 := fun t => by
    unfold putK
    by_cases h : t = i
    · rw [if_pos h, h]; exact hi
    · rw [if_neg h]
  exact ⟨fun t ht => by rw [e]; exact ok.1 t ht, fun a b hab hb => by rw [e, e]; exact ok.2 a b hab hb⟩
theorem okK.del {K : Nat → Nat → Int32} {n i : Nat} (ok : okK K n) (hi : i < n) : okK (delK K i) (n - 1) := by
  refine ⟨fun t ht => ?_, fun a b hab hb => ?_⟩
  · unfold delK
    by_cases h : t < i
    · rw [if_pos h]; exact ok.1 t (by omega)
    · rw [if_neg h]; exact ok.1 (t + 1) (by omega)
  · unfold delK
    by_cases h : b < i
    · rw [if_pos h, if_pos (by omega)]; exact ok.2 a b hab (by omega)
    · rw [if_neg h]
      by_cases h2 : a < i
      · rw [if_pos h2]; exact ok.2 a (b + 1) (by omega) (by omega)
      · rw [if_neg h2]; exact ok.2 (a + 1) (b + 1) (by omega) (by omega)
theorem chgF_n {i : Nat → Int32} {a : Nat} {x : Int32} (h : a < 3) (t : Nat) : chgF i (nI a) x t = if t = 1 + a then x else i t := by
  rcases (show a = 0 ∨ a = 1 ∨ a = 2 by omega) with rfl | rfl | rfl <;> rfl
def CanC (A : AS) (ev : Int32) (img : Nat → Int32) : Prop := (ev = 0 ∧ cantA A (img 0) = 1) ∨ ((ev = 1 ∨ ev = 2) ∧ ∃ i, fK A (img 0) = some i)
theorem in_99 {x : Int32} (h : ¬ inR x 0 99 = 0) : ∃ q, q < 100 ∧ x = nI q := by
  obtain ⟨h1, h2⟩ := inR_iff h
  obtain ⟨j, hj, rfl⟩ := nI_of2 (M := 99) (n := 99) rfl h1 (Int32.not_lt.mp h2)
  exact ⟨j, by omega, rfl⟩
theorem cant_1 {A : AS} {key : Int32} (h : cantA A key = 1) : (∃ q, q < 100 ∧ key = nI q) ∧ fK A key = none ∧ aN A < 20 := by
  unfold cantA at h
  split at h
  · exact absurd h (by decide)
  next h1 =>
    split at h
    · exact absurd h (by decide)
    next h2 =>
      split at h
      next h3 =>
        refine ⟨in_99 h1, ?_, h3⟩
        rcases hf : fK A key with _ | i
        · rfl
        · rw [hf] at h2; exact absurd rfl h2
      · exact absurd h (by decide)
theorem n_02 {x : Int32} (h : inR x 0 2 = 1) : ∃ a, a < 3 ∧ x = nI a := by
  rcases in_02 h with rfl | rfl | rfl
  · exact ⟨0, by decide, rfl⟩
  · exact ⟨1, by decide, rfl⟩
  · exact ⟨2, by decide, rfl⟩
theorem rec_eq (A : AS) (r d key : Int32) : aK (recA A r d key) = aK A ∧ aN (recA A r d key) = aN A ∧ aU (recA A r d key) = aU A ∧ aM (recA A r d key) = aM A ∧ aS (recA A r d key) = aS A := by
  unfold recA
  split <;> exact ⟨rfl, rfl, rfl, rfl, rfl⟩
theorem cnt_eq (d r : Nat) (img : Nat → Int32) (X : XS) : aK (xA (cntA d r img X)) = aK (xA X) ∧ aN (xA (cntA d r img X)) = aN (xA X) ∧ (∀ q f, f ≠ 11 → aU (xA (cntA d r img X)) q f = aU (xA X) q f) ∧ aM (xA (cntA d r img X)) = aM (xA X) ∧ aS (xA (cntA d r img X)) = aS (xA X) ∧ xO (cntA d r img X) = xO X := by
  obtain ⟨h1, h2, h3, h4, h5⟩ := rec_eq (setU (xA X) (up2 (aU (xA X)) r 11 (aU (xA X) r 11 + 1))) (nI r) (nI d) (img 0)
  exact ⟨h1, h2, fun q f hf => (congrFun (congrFun h3 q) f).trans (up2_slot _ _ _ _ hf), h4, h5, rfl⟩
theorem nI_no {r : Nat} (h : r < 12) : ¬ nI r = -1006 := by
  have key : ∀ r : Fin 12, ¬ nI r.1 = -1006 := by decide
  exact key ⟨r, h⟩
theorem kind_cases {u : Nat → Int32} (h : okRu u) : (u 1 = 0 ∧ (u 3 = 0 ∨ u 3 = 1 ∨ u 3 = 2)) ∨ (u 1 = 1 ∧ (u 3 = 1 ∨ u 3 = 3 ∨ u 3 = 4 ∨ u 3 = 5)) := by
  obtain ⟨⟨_, h1, _, h3⟩, _⟩ := h
  unfold kindF at h3
  by_cases e : u 1 = 0
  · rw [if_pos e] at h3; exact Or.inl ⟨e, in_02 h3⟩
  · rw [if_neg e] at h3
    have e1 : u 1 = 1 := by
      obtain ⟨a, b⟩ := inR_iff (fun z => absurd (h1.symm.trans z) (by decide))
      obtain ⟨j, hj, hx⟩ := nI_of2 (M := 1) (n := 1) rfl a (Int32.not_lt.mp b)
      rcases (show j = 0 ∨ j = 1 by omega) with rfl | rfl
      · exact absurd hx e
      · exact hx
    refine Or.inr ⟨e1, ?_⟩
    by_cases e2 : u 3 = 1
    · exact Or.inl e2
    · rw [if_neg e2] at h3
      obtain ⟨a, b⟩ := inR_iff (fun z => absurd (h3.symm.trans z) (by decide))
      have a0 : ¬ u 3 < 0 := fun z => a (Int32.lt_trans z (by decide))
      obtain ⟨j, hj, hx⟩ := nI_of2 (M := 5) (n := 5) rfl a0 (Int32.not_lt.mp b)
      have h3j : ¬ j < 3 := fun z => a (by rw [hx]; exact (nI_ltI (b := 3) (by omega) (by decide)).mpr z)
      rcases (show j = 3 ∨ j = 4 ∨ j = 5 by omega) with rfl | rfl | rfl
      · exact Or.inr (Or.inl hx)
      · exact Or.inr (Or.inr (Or.inl hx))
      · exact Or.inr (Or.inr (Or.inr hx))
theorem prep_can {A : AS} {u img img2 : Nat → Int32} (ok : okM A) (hk : u 3 = 3 ∨ u 3 = 4 ∨ u 3 = 5) (h4 : inR (u 4) 0 2 = 1) (h : prepA A u img = some img2) : CanC A (u 3 - 3) img2 ∧ (∃ q, q < 100 ∧ img2 0 = nI q) ∧ (u 3 - 3 = 0 ∨ u 3 - 3 = 1 ∨ u 3 - 3 = 2) := by
  have fnd : ∀ {key : Int32} {i : Nat}, fK A key = some i → aK A i 0 = key ∧ ∃ q, q < 100 ∧ key = nI q := fun {key i} hf => by
    obtain ⟨_, h2, h3, _⟩ := fndF_some hf
    have h3' : aK A i 0 = key := h3
    obtain ⟨q, hq, e⟩ := ok.1.1 i (by omega)
    exact ⟨h3', q, hq, h3'.symm.trans e⟩
  rcases hk with e | e | e
  · rw [prepA, if_pos e] at h
    rw [e]
    split at h
    · exact absurd h (by simp)
    next hc =>
      have h1 : img2 0 = valF u img := by rw [← Option.some.inj h]; rfl
      have hc1 : cantA A (valF u img) = 1 := by
        unfold cantA at hc ⊢
        repeat' split at hc
        all_goals first | exact absurd rfl hc | skip
        all_goals simp_all
      refine ⟨Or.inl ⟨rfl, by rw [h1]; exact hc1⟩, by rw [h1]; exact (cant_1 hc1).1, Or.inl rfl⟩
  · rw [prepA, if_neg (by rw [e]; decide), if_pos e, prUp] at h
    rw [e]
    rcases hf : fK A (nxt (img 0)) with _ | i
    · rw [hf] at h; exact absurd h (by simp)
    · rw [hf] at h
      simp only at h
      split at h
      · exact absurd h (by simp)
      · obtain ⟨a, ha, hA⟩ := n_02 h4
        obtain ⟨f1, f2⟩ := fnd hf
        have h1 : img2 0 = nxt (img 0) := by rw [← Option.some.inj h, hA, chgF_n ha, if_neg (by omega)]; exact f1
        exact ⟨Or.inr ⟨Or.inl rfl, i, by rw [h1]; exact hf⟩, by rw [h1]; exact f2, Or.inr (Or.inl rfl)⟩
  · rw [prepA, if_neg (by rw [e]; decide), if_neg (by rw [e]; decide), prDel] at h
    rw [e]
    rcases hf : fK A (valF u img) with _ | i
    · rw [hf] at h; exact absurd h (by simp)
    · rw [hf] at h
      obtain ⟨f1, f2⟩ := fnd hf
      have h1 : img2 0 = valF u img := by rw [← Option.some.inj h]; exact f1
      exact ⟨Or.inr ⟨Or.inr rfl, i, by rw [h1]; exact hf⟩, by rw [h1]; exact f2, Or.inr (Or.inr rfl)⟩
theorem chgF_0 (img : Nat → Int32) (f x : Int32) : chgF img f x 0 = img 0 := by
  unfold chgF
  rw [if_neg]
  split
  · decide
  · split <;> decide
theorem fire_key (sub : SubT) (d r : Nat) (img : Nat → Int32) (X : XS) : (fireA sub d r img X).2.1 0 = img 0 := by
  unfold fireA
  split
  · exact chgF_0 _ _ _
  · split
    · rfl
    · split <;> rfl
theorem fld_key (sub : SubT) (d : Nat) (cs : List Nat) (ev mo : Int32) (od : Nat → Nat) (j k : Nat) (img : Nat → Int32) (X : XS) : (fldA sub d cs ev mo od j k img X).2.1 0 = img 0 := by
  induction k generalizing j img X with
  | zero => rfl
  | succ k ih =>
    unfold fldA
    split
    · split
      · rw [ih]; exact fire_key _ _ _ _ _
      · exact fire_key _ _ _ _ _
    · exact ih _ _ _
theorem fld_rows (sub : SubT) (d : Nat) (cs : List Nat) (ev : Int32) (od : Nat → Nat) (j k : Nat) (img : Nat → Int32) (X : XS) (hok : ∀ r, r < aM (xA X) → okRu (aU (xA X) r)) (hod : ∀ t, j ≤ t → t < j + k → od t < aM (xA X)) : aK (xA (fldA sub d cs ev 0 od j k img X).2.2) = aK (xA X) ∧ aN (xA (fldA sub d cs ev 0 od j k img X).2.2) = aN (xA X) := by
  induction k generalizing j img X with
  | zero => exact ⟨rfl, rfl⟩
  | succ k ih =>
    unfold fldA
    have c := cnt_eq d (od j) img X
    have st := cnt_stb d (od j) img X
    have ok2 : ∀ r, r < aM (xA (cntA d (od j) img X)) → okRu (aU (xA (cntA d (od j) img X)) r) := fun r hr => by
      have h0 := hok r (by rw [← st.2.1]; exact hr)
      have e := st.1 r
      unfold okRu at h0 ⊢
      rw [e 0 (by decide), e 1 (by decide), e 2 (by decide), e 3 (by decide), e 4 (by decide), e 5 (by decide), e 7 (by decide), e 8 (by decide), e 10 (by decide)]
      exact h0
    split
    next hh =>
      have hp : aU (xA X) (od j) 1 = 0 := by
        unfold hitA at hh
        exact (of_decide_eq_true hh).2.1.2
      have hk := kind_cases (hok (od j) (hod j (Nat.le_refl _) (by omega)))
      have hk3 : aU (xA X) (od j) 3 = 0 ∨ aU (xA X) (od j) 3 = 1 ∨ aU (xA X) (od j) 3 = 2 := by
        rcases hk with h | h
        · exact h.2
        · rw [hp] at h; exact absurd h.1 (by decide)
      have e3 : aK (xA (fireA sub d (od j) img X).2.2) = aK (xA X) ∧ aN (xA (fireA sub d (od j) img X).2.2) = aN (xA X) := by
        unfold fireA
        rcases hk3 with e | e | e
        · rw [if_pos e]; exact ⟨c.1, c.2.1⟩
        · rw [if_neg (by rw [e]; decide), if_pos e]; exact ⟨c.1, c.2.1⟩
        · rw [if_neg (by rw [e]; decide), if_neg (by rw [e]; decide), if_pos e]; exact ⟨c.1, c.2.1⟩
      split
      next ht =>
        have ef : (fireA sub d (od j) img X).2.2 = cntA d (od j) img X := by
          unfold fireA at ht ⊢
          rcases hk3 with e | e | e
          · rw [if_pos e]
          · rw [if_neg (by rw [e]; decide), if_pos e] at ht; exact absurd ht (by simp)
          · rw [if_neg (by rw [e]; decide), if_neg (by rw [e]; decide), if_pos e] at ht; exact absurd ht (by simp)
        rw [ef]
        obtain ⟨i1, i2⟩ := ih (j + 1) (fireA sub d (od j) img X).2.1 (cntA d (od j) img X) ok2 (fun t h1 h2 => by rw [st.2.1]; exact hod t (by omega) (by omega))
        exact ⟨i1.trans c.1, i2.trans c.2.1⟩
      · exact e3
    next => exact ih (j + 1) img X hok (fun t h1 h2 => hod t (by omega) (by omega))
theorem CanC.congr {A A' : AS} {ev : Int32} {img img' : Nat → Int32} (h : CanC A ev img) (h1 : aK A' = aK A) (h2 : aN A' = aN A) (h3 : img' 0 = img 0) : CanC A' ev img' := by
  unfold CanC cantA fK at *
  rw [h1, h2, h3]
  exact h
