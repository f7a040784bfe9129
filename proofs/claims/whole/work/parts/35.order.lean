/-! THE MODEL: the order of rules -/
def cnP (p : Nat → Prop) [DecidablePred p] : Nat → Nat
  | 0 => 0
  | n + 1 => cnP p n + (if p n then 1 else 0)
theorem cnP_le (p : Nat → Prop) [DecidablePred p] (n : Nat) : cnP p n ≤ n := by
  induction n with
  | zero => exact Nat.le_refl 0
  | succ n ih => unfold cnP; split <;> omega
theorem cnP_mono (p : Nat → Prop) [DecidablePred p] {a b : Nat} (h : a ≤ b) : cnP p a ≤ cnP p b := by
  induction b with
  | zero => rw [Nat.le_zero.mp h]; exact Nat.le_refl _
  | succ b ih =>
    by_cases e : a = b + 1
    · rw [e]; exact Nat.le_refl _
    · exact Nat.le_trans (ih (by omega)) (by show cnP p b ≤ cnP p b + _; omega)
theorem cnP_congr {p q : Nat → Prop} [DecidablePred p] [DecidablePred q] {n : Nat} (h : ∀ t, t < n → (p t ↔ q t)) : cnP p n = cnP q n := by
  induction n with
  | zero => rfl
  | succ n ih =>
    show cnP p n + (if p n then 1 else 0) = cnP q n + (if q n then 1 else 0)
    rw [ih (fun t ht => h t (by omega))]
    by_cases hp : p n
    · rw [if_pos hp, if_pos ((h n (by omega)).mp hp)]
    · rw [if_neg hp, if_neg (fun z => hp ((h n (by omega)).mpr z))]
/-- the order with one more put in -/
def insN (f : Nat → Nat) (s x : Nat) : Nat → Nat := fun t => if t < s then f t else if t = s then x else f (t - 1)
theorem cnP_ins (p : Nat → Prop) [DecidablePred p] (f : Nat → Nat) (s x : Nat) (n : Nat) (hs : s ≤ n) : cnP (fun t => p (insN f s x t)) (n + 1) = cnP (fun t => p (f t)) n + (if p x then 1 else 0) := by
  induction n with
  | zero =>
    have e : s = 0 := Nat.le_zero.mp hs
    subst e
    rfl
  | succ n ih =>
    show cnP (fun t => p (insN f s x t)) (n + 1) + (if p (insN f s x (n + 1)) then 1 else 0) = cnP (fun t => p (f t)) n + (if p (f n) then 1 else 0) + (if p x then 1 else 0)
    by_cases e : s = n + 1
    · have e1 : insN f s x (n + 1) = x := by unfold insN; rw [if_neg (by omega), if_pos (by omega)]
      have e2 : cnP (fun t => p (insN f s x t)) (n + 1) = cnP (fun t => p (f t)) (n + 1) := cnP_congr fun t ht => by
        have : insN f s x t = f t := by unfold insN; rw [if_pos (by omega)]
        rw [this]
      rw [e1, e2]
      rfl
    · have e1 : insN f s x (n + 1) = f n := by unfold insN; rw [if_neg (by omega), if_neg (by omega)]; rfl
      rw [e1, ih (by omega)]
      omega
theorem osrt_ins (rk : Nat → Int32) (k : Nat) : osrt rk (k + 1) = insN (osrt rk k) (insR rk (osrt rk k) (rk k) k) k := rfl
theorem osrt_cnt (rk : Nat → Int32) (p : Nat → Prop) [DecidablePred p] (m : Nat) : cnP (fun t => p (osrt rk m t)) m = cnP p m := by
  induction m with
  | zero => rfl
  | succ m ih =>
    rw [osrt_ins]
    rw [cnP_ins p (osrt rk m) _ m m (insR_le _ _ _ _), ih]
    rfl
abbrev lexR (rk : Nat → Int32) (q r : Nat) : Prop := rk q < rk r ∨ (rk q = rk r ∧ q < r)
theorem insR_spec (rk : Nat → Int32) (o : Nat → Nat) (x : Int32) (n : Nat) : (∀ t, insR rk o x n ≤ t → t < n → x < rk (o t)) ∧ (0 < insR rk o x n → ¬ x < rk (o (insR rk o x n - 1))) := by
  induction n with
  | zero => exact ⟨fun t _ h => absurd h (Nat.not_lt_zero _), fun h => absurd h (Nat.lt_irrefl 0)⟩
  | succ n ih =>
    unfold insR
    split
    next h =>
      refine ⟨fun t h1 h2 => ?_, ih.2⟩
      by_cases e : t = n
      · rw [e]; exact h
      · exact ih.1 t h1 (by omega)
    next h => exact ⟨fun t h1 h2 => absurd h1 (by omega), fun _ => h⟩
theorem osrt_lex (rk : Nat → Int32) (m : Nat) : ∀ t u, t < u → u < m → lexR rk (osrt rk m t) (osrt rk m u) := by
  induction m with
  | zero => exact fun t u _ h => absurd h (Nat.not_lt_zero _)
  | succ m ih =>
    intro t u htu hu
    obtain ⟨s1, s2⟩ := insR_spec rk (osrt rk m) (rk m) m
    have hle := insR_le rk (osrt rk m) (rk m) m
    rw [osrt_ins]
    unfold insN
    generalize hs : insR rk (osrt rk m) (rk m) m = s at *
    by_cases h1 : u < s
    · rw [if_pos h1, if_pos (by omega)]; exact ih t u htu (by omega)
    · rw [if_neg h1]
      by_cases h2 : u = s
      · rw [if_pos h2, if_pos (by omega)]
        have hl := osrt_lt rk m t (by omega)
        have hle2 : rk (osrt rk m t) ≤ rk m := by
          have h0 := Int32.not_lt.mp (s2 (by omega))
          by_cases e : t = s - 1
          · rw [e]; exact h0
          · rcases ih t (s - 1) (by omega) (by omega) with z | z
            · exact Int32.le_trans (Int32.le_of_lt z) h0
            · rw [z.1]; exact h0
        by_cases e : rk (osrt rk m t) = rk m
        · exact Or.inr ⟨e, hl⟩
        · exact Or.inl (Int32.lt_of_le_of_ne hle2 e)
      · rw [if_neg h2]
        by_cases h3 : t < s
        · rw [if_pos h3]; exact ih t (u - 1) (by omega) (by omega)
        · rw [if_neg h3]
          by_cases h4 : t = s
          · rw [if_pos h4]
            exact Or.inl (s1 (u - 1) (by omega) (by omega))
          · rw [if_neg h4]; exact ih (t - 1) (u - 1) (by omega) (by omega)
theorem lexR_asym {rk : Nat → Int32} {q r : Nat} (h : lexR rk q r) : ¬ lexR rk r q := by
  intro z
  rcases h with h | h <;> rcases z with z | z
  · exact Int32.lt_asymm h z
  · rw [z.1] at h; exact Int32.lt_irrefl h
  · rw [h.1] at z; exact Int32.lt_irrefl z
  · omega
theorem lexR_irr {rk : Nat → Int32} {q : Nat} : ¬ lexR rk q q := fun h => lexR_asym h h
/-- those ahead of the rule at the place t are those at the places before it -/
theorem ahead_cnt (rk : Nat → Int32) (p : Nat → Prop) [DecidablePred p] (m t : Nat) (ht : t < m) : cnP (fun q => p q ∧ lexR rk q (osrt rk m t)) m = cnP (fun u => p (osrt rk m u)) t := by
  rw [← osrt_cnt rk (fun q => p q ∧ lexR rk q (osrt rk m t)) m]
  have key : ∀ n, t ≤ n → n ≤ m → cnP (fun u => p (osrt rk m u) ∧ lexR rk (osrt rk m u) (osrt rk m t)) n = cnP (fun u => p (osrt rk m u)) t := by
    intro n h1 h2
    induction n with
    | zero => rw [Nat.le_zero.mp h1]; rfl
    | succ n ih =>
      by_cases e : t = n + 1
      · rw [e]
        refine cnP_congr fun u hu => ⟨fun z => z.1, fun z => ⟨z, ?_⟩⟩
        rw [← e]
        exact osrt_lex rk m u t (by omega) ht
      · show cnP _ n + (if _ then 1 else 0) = _
        rw [ih (by omega) (by omega), if_neg]
        · rfl
        · intro z
          by_cases e2 : t = n
          · rw [e2] at z; exact lexR_irr z.2
          · exact lexR_asym z.2 (osrt_lex rk m t n (by omega) (by omega))
  exact key m (by omega) (Nat.le_refl m)
theorem osrt_onto (rk : Nat → Int32) (m r : Nat) (hr : r < m) : ∃ t, t < m ∧ osrt rk m t = r := by
  have h : cnP (fun t => osrt rk m t = r) m = cnP (fun q => q = r) m := osrt_cnt rk (fun q => q = r) m
  have h1 : ∀ n, r < n → cnP (fun q => q = r) n = 1 := by
    have h0 : ∀ n, n ≤ r → cnP (fun q => q = r) n = 0 := fun n => by
      induction n with
      | zero => exact fun _ => rfl
      | succ n ih => exact fun hn => by show cnP _ n + (if n = r then 1 else 0) = 0; rw [ih (by omega), if_neg (by omega)]
    intro n
    induction n with
    | zero => exact fun z => absurd z (Nat.not_lt_zero _)
    | succ n ih =>
      intro hn
      show cnP _ n + (if n = r then 1 else 0) = 1
      by_cases e : n = r
      · rw [h0 n (by omega), if_pos e]
      · rw [ih (by omega), if_neg e]
  rw [h1 m hr] at h
  have h2 : ∀ n, 0 < cnP (fun t => osrt rk m t = r) n → ∃ t, t < n ∧ osrt rk m t = r := fun n => by
    induction n with
    | zero => exact fun z => absurd z (Nat.lt_irrefl 0)
    | succ n ih =>
      intro z
      by_cases e : osrt rk m n = r
      · exact ⟨n, by omega, e⟩
      · have z2 : 0 < cnP (fun t => osrt rk m t = r) n + (if osrt rk m n = r then 1 else 0) := z
        rw [if_neg e] at z2
        obtain ⟨t, h3, h4⟩ := ih z2
        exact ⟨t, by omega, h4⟩
  exact h2 m (by omega)
theorem amF_from (p : Nat → Prop) [DecidablePred p] (od : Nat → Nat) (m j c : Nat) (hj : j ≤ m) (hm : m ≤ 12) (hc : cnP (fun t => p (od t)) j = c) : amF p od (nI c) 0 m 0 = amF p od (nI c) j (m - j) c := by
  have key : ∀ i, i ≤ j → amF p od (nI c) 0 m 0 = amF p od (nI c) i (m - i) (cnP (fun t => p (od t)) i) := by
    intro i
    induction i with
    | zero => exact fun _ => rfl
    | succ i ih =>
      intro hi
      rw [ih (by omega), show m - i = (m - (i + 1)) + 1 by omega]
      show (if p (od i) then (if nI (cnP (fun t => p (od t)) i) = nI c then some (od i) else amF p od (nI c) (i + 1) (m - (i + 1)) (cnP (fun t => p (od t)) i + 1)) else amF p od (nI c) (i + 1) (m - (i + 1)) (cnP (fun t => p (od t)) i)) = amF p od (nI c) (i + 1) (m - (i + 1)) (cnP (fun t => p (od t)) i + (if p (od i) then 1 else 0))
      by_cases hp : p (od i)
      · rw [if_pos hp, if_pos hp, if_neg]
        intro z
        have hm1 : cnP (fun t => p (od t)) (i + 1) ≤ c := hc ▸ cnP_mono _ hi
        have hm2 : cnP (fun t => p (od t)) (i + 1) = cnP (fun t => p (od t)) i + 1 := by
          show cnP _ i + (if p (od i) then 1 else 0) = _
          rw [if_pos hp]
        have := cnP_le (fun t => p (od t)) j
        have := (nI_eq (by omega) (by omega)).mp z
        omega
      · rw [if_neg hp, if_neg hp]; rfl
  rw [key j (Nat.le_refl j), hc]
theorem amF_some {p : Nat → Prop} [DecidablePred p] {od : Nat → Nat} {w : Int32} {j k c r : Nat} (h : amF p od w j k c = some r) : ∃ t, j ≤ t ∧ t < j + k ∧ od t = r ∧ p r ∧ nI (c + (cnP (fun u => p (od u)) t - cnP (fun u => p (od u)) j)) = w := by
  induction k generalizing j c with
  | zero => exact absurd h (by simp [amF])
  | succ k ih =>
    unfold amF at h
    have mono : ∀ t, j + 1 ≤ t → cnP (fun u => p (od u)) (j + 1) ≤ cnP (fun u => p (od u)) t := fun t ht => cnP_mono _ ht
    have es : cnP (fun u => p (od u)) (j + 1) = cnP (fun u => p (od u)) j + (if p (od j) then 1 else 0) := rfl
    split at h
    next hp =>
      rw [if_pos hp] at es
      split at h
      next hw => exact ⟨j, Nat.le_refl _, by omega, Option.some.inj h, Option.some.inj h ▸ hp, by rw [Nat.sub_self]; exact hw⟩
      next hw =>
        obtain ⟨t, h1, h2, h3, h4, h5⟩ := ih h
        have := mono t h1
        exact ⟨t, by omega, by omega, h3, h4, by rw [← h5]; congr 1; omega⟩
    next hp =>
      rw [if_neg hp] at es
      obtain ⟨t, h1, h2, h3, h4, h5⟩ := ih h
      exact ⟨t, by omega, by omega, h3, h4, by rw [← h5, es]; rfl⟩
theorem amF_none {p : Nat → Prop} [DecidablePred p] {od : Nat → Nat} {w : Int32} {j k c : Nat} (h : amF p od w j k c = none) : ∀ t, j ≤ t → t < j + k → p (od t) → ¬ nI (c + (cnP (fun u => p (od u)) t - cnP (fun u => p (od u)) j)) = w := by
  induction k generalizing j c with
  | zero => exact fun t h1 h2 => absurd h2 (by omega)
  | succ k ih =>
    intro t h1 h2 hp hw
    have es : cnP (fun u => p (od u)) (j + 1) = cnP (fun u => p (od u)) j + (if p (od j) then 1 else 0) := rfl
    unfold amF at h
    by_cases e : t = j
    · subst e
      rw [if_pos hp] at h
      rw [Nat.sub_self, Nat.add_zero] at hw
      rw [if_pos hw] at h
      exact absurd h (by simp)
    · have mono : cnP (fun u => p (od u)) (j + 1) ≤ cnP (fun u => p (od u)) t := cnP_mono _ (by omega)
      split at h
      next hpj =>
        rw [if_pos hpj] at es
        split at h
        next => exact absurd h (by simp)
        next => exact ih h t (by omega) (by omega) hp (by rw [← hw]; congr 1; omega)
      next hpj =>
        rw [if_neg hpj] at es
        exact ih h t (by omega) (by omega) hp (by rw [← hw, es]; rfl)
/-- the rule at a place, found by counting those ahead -/
theorem order_eq (rk : Nat → Int32) (p : Nat → Prop) [DecidablePred p] (w : Int32) (m : Nat) (hm : m ≤ 12) : fndF (fun r => p r ∧ nI (cnP (fun q => p q ∧ lexR rk q r) m) = w) 0 m = amF p (osrt rk m) w 0 m 0 := by
  rcases hA : amF p (osrt rk m) w 0 m 0 with _ | r
  · rcases hF : fndF (fun r => p r ∧ nI (cnP (fun q => p q ∧ lexR rk q r) m) = w) 0 m with _ | r
    · rfl
    · obtain ⟨h1, h2, ⟨h3, h4⟩, h5⟩ := fndF_some hF
      obtain ⟨t, ht, he⟩ := osrt_onto rk m r (by omega)
      have hn := amF_none hA t (Nat.zero_le _) (by omega) (by rw [he]; exact h3)
      rw [← he, ahead_cnt rk p m t ht] at h4
      exact absurd (by rw [← h4]; congr 1; show 0 + (_ - 0) = _; omega) hn
  · obtain ⟨t, h1, h2, h3, h4, h5⟩ := amF_some hA
    have h6 : nI (cnP (fun q => p q ∧ lexR rk q r) m) = w := by
      rw [← h3, ahead_cnt rk p m t (by omega), ← h5]
      congr 1
      show _ = 0 + (_ - 0)
      omega
    have hr : r < m := h3 ▸ osrt_lt rk m t (by omega)
    rcases hF : fndF (fun r => p r ∧ nI (cnP (fun q => p q ∧ lexR rk q r) m) = w) 0 m with _ | r'
    · exact absurd ⟨h4, h6⟩ (fndF_none hF r (Nat.zero_le _) (by omega))
    · obtain ⟨g1, g2, ⟨g3, g4⟩, g5⟩ := fndF_some hF
      obtain ⟨t', ht', he'⟩ := osrt_onto rk m r' (by omega)
      have c1 : nI (cnP (fun u => p (osrt rk m u)) t') = nI (cnP (fun u => p (osrt rk m u)) t) := by
        rw [← he', ahead_cnt rk p m t' ht'] at g4
        rw [← h3, ahead_cnt rk p m t (by omega)] at h6
        rw [g4, h6]
      have l1 := cnP_le (fun u => p (osrt rk m u)) t'
      have l2 := cnP_le (fun u => p (osrt rk m u)) t
      have c2 := (nI_eq (by omega) (by omega)).mp c1
      have strict : ∀ a b, a < b → p (osrt rk m a) → cnP (fun u => p (osrt rk m u)) a < cnP (fun u => p (osrt rk m u)) b := fun a b hab hp => by
        have := cnP_mono (fun u => p (osrt rk m u)) (show a + 1 ≤ b from hab)
        have es : cnP (fun u => p (osrt rk m u)) (a + 1) = cnP (fun u => p (osrt rk m u)) a + (if p (osrt rk m a) then 1 else 0) := rfl
        rw [if_pos hp] at es
        omega
      have et : t' = t := by
        rcases Nat.lt_trichotomy t' t with z | z | z
        · have := strict t' t z (by rw [he']; exact g3); omega
        · exact z
        · have := strict t t' z (by rw [h3]; exact h4); omega
      rw [← he', ← h3, et]
