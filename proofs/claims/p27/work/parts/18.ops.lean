/-! WHAT OPERATIONS DO, as functions; the table's changes -/
def setK (A : AS) (K : Nat → Nat → Int32) (n : Nat) : AS := (K, n, A.2.2)
def setU (A : AS) (U : Nat → Nat → Int32) : AS := (A.1, A.2.1, U, A.2.2.2)
def setC (A : AS) (C : Nat → Nat → Int32) (n : Nat) : AS := (A.1, A.2.1, A.2.2.1, A.2.2.2.1, A.2.2.2.2.1, C, n)
def setS (A : AS) (S : Nat → Int32) : AS := (A.1, A.2.1, A.2.2.1, A.2.2.2.1, S, A.2.2.2.2.2)
abbrev XS : Type := AS × Nat × Int32 × Int32 × Int32 × Int32
abbrev xA (X : XS) : AS := X.1
abbrev xO (X : XS) : Nat := X.2.1
abbrev xF (X : XS) : Int32 := X.2.2.1
abbrev xD (X : XS) : Int32 := X.2.2.2.1
abbrev xR (X : XS) : Int32 := X.2.2.2.2.1
abbrev xW (X : XS) : Int32 := X.2.2.2.2.2
def fK (A : AS) (key : Int32) : Option Nat := fndF (fun j => aK A j 0 = key) 0 (aN A)
def insK (K : Nat → Nat → Int32) (n : Nat) (img : Nat → Int32) : Nat → Nat → Int32 := fun j => if j < insP (fun j => K j 0) (img 0) n then K j else if j = insP (fun j => K j 0) (img 0) n then img else K (j - 1)
def delK (K : Nat → Nat → Int32) (i : Nat) : Nat → Nat → Int32 := fun j => if j < i then K j else K (j + 1)
def putK (K : Nat → Nat → Int32) (i : Nat) (img : Nat → Int32) : Nat → Nat → Int32 := fun j => if j = i then img else K j
def carA (ev : Int32) (img : Nat → Int32) (A : AS) : AS :=
  if ev = 0 then (if aN A < 20 then setK A (insK (aK A) (aN A) img) (aN A + 1) else A)
  else if ev = 1 then (match fK A (img 0) with | none => A | some i => setK A (putK (aK A) i img) (aN A))
  else (match fK A (img 0) with | none => A | some i => setK A (delK (aK A) i) (aN A - 1))
def chgF (img : Nat → Int32) (f x : Int32) : Nat → Int32 := fun j => if j = (if f = 0 then 1 else if f = 1 then 2 else 3) then x else img j
def valF (u img : Nat → Int32) : Int32 := clampF (rowF img (u 5) + u 6)
def cantA (A : AS) (key : Int32) : Int32 := if inR key 0 99 = 0 then 0 else if (fK A key).isSome then 0 else if aN A < 20 then 1 else 0
def prUp (A : AS) (key f x : Int32) : Option (Nat → Int32) := match fK A key with
  | none => none
  | some i => if rowF (aK A i) f = x then none else some (chgF (aK A i) f x)
def prDel (A : AS) (key : Int32) : Option (Nat → Int32) := match fK A key with
  | none => none
  | some i => some (aK A i)
def nxt (k : Int32) : Int32 := if k = 99 then 0 else k + 1
def prepA (A : AS) (u img : Nat → Int32) : Option (Nat → Int32) :=
  if u 3 = 3 then (if cantA A (valF u img) = 0 then none else some (fun j => if j = 0 then valF u img else img j))
  else if u 3 = 4 then prUp A (nxt (img 0)) (u 4) (valF u img)
  else prDel A (valF u img)
def recA (A : AS) (r d key : Int32) : AS := if aR A < 60 then setC A (fun i w => if i = aR A then (if w = 0 then r else if w = 1 then d else key) else aC A i w) (aR A + 1) else A
def cntA (d : Nat) (r : Nat) (img : Nat → Int32) (X : XS) : XS :=
  (recA (setU (xA X) (up2 (aU (xA X)) r 11 (aU (xA X) r 11 + 1))) (nI r) (nI d) (img 0), xO X, xF X + 1, X.2.2.2)
def refA (X : XS) (why who : Int32) : XS := (X.1, X.2.1, X.2.2.1, X.2.2.2.1, why, who)
abbrev SubT : Type := Option (Int32 → Nat → (Nat → Int32) → XS → XS)
def causeA (sub : SubT) (d r : Nat) (img : Nat → Int32) (X : XS) : XS := match sub with
  | none => refA X 2 (nI r)
  | some f => if aS (xA X) 0 ≤ nI d then refA X 2 (nI r) else match prepA (xA X) (aU (xA X) r) img with
    | none => X
    | some img2 => f (aU (xA X) r 3 - 3) r img2 X
def fireA (sub : SubT) (d r : Nat) (img : Nat → Int32) (X : XS) : Bool × (Nat → Int32) × XS :=
  if aU (xA X) r 3 = 0 then (true, chgF img (aU (xA X) r 4) (valF (aU (xA X) r) img), cntA d r img X)
  else if aU (xA X) r 3 = 1 then (false, img, refA (cntA d r img X) 1 (nI r))
  else if aU (xA X) r 3 = 2 then (false, img, cntA d r img X)
  else (decide (xR (causeA sub d r img (cntA d r img X)) = 0), img, causeA sub d r img (cntA d r img X))
def hitA (X : XS) (cs : List Nat) (ev mo : Int32) (r : Nat) (img : Nat → Int32) : Bool :=
  decide (¬ aU (xA X) r 10 = 0 ∧ (aU (xA X) r 0 = ev ∧ aU (xA X) r 1 = mo) ∧ ¬ (aS (xA X) 1 = 1 ∧ r ∈ cs) ∧ cmpF (aU (xA X) r 8) (rowF img (aU (xA X) r 7)) (aU (xA X) r 9) = 1)

def fldA (sub : SubT) (d : Nat) (cs : List Nat) (ev mo : Int32) (od : Nat → Nat) : Nat → Nat → (Nat → Int32) → XS → Bool × (Nat → Int32) × XS
  | _, 0, img, X => (true, img, X)
  | j, k + 1, img, X => if hitA X cs ev mo (od j) img = true then (if (fireA sub d (od j) img X).1 = true then fldA sub d cs ev mo od (j + 1) k (fireA sub d (od j) img X).2.1 (fireA sub d (od j) img X).2.2 else fireA sub d (od j) img X) else fldA sub d cs ev mo od (j + 1) k img X
def begA (d : Nat) (X : XS) : XS := (X.1, xO X + 1, xF X, (if xD X < nI d then nI d else xD X), xR X, xW X)
def odA (A : AS) : Nat → Nat := osrt (rkF (aU A)) (aM A)
def opB (sub : SubT) (d : Nat) (cs : List Nat) (ev cause : Int32) (img : Nat → Int32) (X : XS) : XS :=
  if 100 ≤ xO X then refA X 3 cause
  else if (fldA sub d cs ev 0 (odA (xA X)) 0 (aM (xA X)) img (begA d X)).1 = true then
    (fldA sub d cs ev 1 (odA (xA X)) 0 (aM (xA X)) (fldA sub d cs ev 0 (odA (xA X)) 0 (aM (xA X)) img (begA d X)).2.1 ((carA ev (fldA sub d cs ev 0 (odA (xA X)) 0 (aM (xA X)) img (begA d X)).2.1 (xA (fldA sub d cs ev 0 (odA (xA X)) 0 (aM (xA X)) img (begA d X)).2.2), (fldA sub d cs ev 0 (odA (xA X)) 0 (aM (xA X)) img (begA d X)).2.2.2) : XS)).2.2
  else (fldA sub d cs ev 0 (odA (xA X)) 0 (aM (xA X)) img (begA d X)).2.2
/-- the operation of the depth 8 - lv -/
def opA : Nat → List Nat → Int32 → Int32 → (Nat → Int32) → XS → XS
  | 0 => fun cs ev cause img X => opB none 8 cs ev cause img X
  | lv + 1 => fun cs ev cause img X => opB (some (fun ev2 r img2 X2 => opA lv (r :: cs) ev2 (nI r) img2 X2)) (7 - lv) cs ev cause img X
theorem fndF_some {p : Nat → Prop} [DecidablePred p] {j k i : Nat} (h : fndF p j k = some i) : j ≤ i ∧ i < j + k ∧ p i ∧ ∀ t, j ≤ t → t < i → ¬ p t := by
  induction k generalizing j with
  | zero => cases h
  | succ k ih =>
    unfold fndF at h
    split at h
    next hp => cases h; exact ⟨Nat.le_refl _, by omega, hp, fun t h1 h2 => by omega⟩
    next hp =>
      obtain ⟨h1, h2, h3, h4⟩ := ih h
      refine ⟨by omega, by omega, h3, fun t q1 q2 => ?_⟩
      by_cases e : t = j
      · subst e; exact hp
      · exact h4 t (by omega) q2
theorem fndF_none {p : Nat → Prop} [DecidablePred p] {j k : Nat} (h : fndF p j k = none) : ∀ t, j ≤ t → t < j + k → ¬ p t := by
  induction k generalizing j with
  | zero => intro t h1 h2; omega
  | succ k ih =>
    unfold fndF at h
    split at h
    next hp => cases h
    next hp =>
      intro t q1 q2
      by_cases e : t = j
      · subst e; exact hp
      · exact ih h t (by omega) (by omega)
theorem fndF_congr {p q : Nat → Prop} [DecidablePred p] [DecidablePred q] {j k : Nat} (h : ∀ t, j ≤ t → t < j + k → (p t ↔ q t)) : fndF p j k = fndF q j k := by
  induction k generalizing j with
  | zero => rfl
  | succ k ih =>
    unfold fndF
    have h0 := h j (Nat.le_refl _) (by omega)
    by_cases hp : p j
    · rw [if_pos hp, if_pos (h0.mp hp)]
    · rw [if_neg hp, if_neg (fun z => hp (h0.mpr z))]
      exact ih (fun t h1 h2 => h t (by omega) (by omega))
theorem insP_congr {f g : Nat → Int32} {x : Int32} {n : Nat} (h : ∀ j, j < n → f j = g j) : insP f x n = insP g x n := by
  induction n with
  | zero => rfl
  | succ n ih =>
    unfold insP
    rw [h n (by omega), ih (fun j hj => h j (by omega))]
theorem tab_fnd {I : MI} {P : Nat → Nat} {n : Nat} {K : Nat → Nat → Int32} (h : ∀ j, j < n → ∀ f, f < 4 → I (P j) f = K j f) (key : Int32) : fndF (fun j => I (P j) 0 = key) 0 n = fndF (fun j => K j 0 = key) 0 n :=
  fndF_congr (fun t _ h2 => by
    have e := h t (by omega) 0 (by decide)
    exact ⟨fun z => e ▸ z, fun z => by rw [e]; exact z⟩)
/-- what a change of the table alone leaves -/
def TPo (b : Nat) (I : MI) (R : MR) (K : Nat → Nat → Int32) (n : Nat) : Po := fun r g' I' R' => r = none ∧ g0 = g' ∧ TabC I' R' b K n ∧ Out I I' (b + 1) (b + 23) ∧ Out R R' (b + 2) (b + 3) ∧ FR R'
theorem S_takeC (b n x : Nat) (K : Nat → Nat → Int32) (img : Nat → Int32) (I : MI) (R : MR) (hB : isB b) (hFR : FR R) (hT : TabC I R b K n) (hlt : n < 20) (hkx : KA g0 x 4 0) (hx : x < b + 3 ∨ b + 23 ≤ x) (hi : ∀ f, f < 4 → I x f = img f) : Sp 1 0 0 mX8_take [.ref (b + 1), .ref x] g0 I R (TPo b I R (insK K n img) (n + 1)) := by
  obtain ⟨P, hS, hK⟩ := hT
  refine (S_take b n x P I R hB hFR hS hlt hkx hx).weaken ?_
  rintro r g' I' R' ⟨rfl, rfl, rfl, rfl⟩
  have hP := hS.2.2
  have hq : insP (fun j => I (P j) 0) (I x 0) n = insP (fun j => K j 0) (img 0) n := by
    rw [hi 0 (by decide)]
    exact insP_congr (fun j hj => hK j hj 0 (by decide))
  rw [hq]
  have hle := insP_le (fun j => K j 0) (img 0) n
  unfold insK
  generalize insP (fun j => K j 0) (img 0) n = q at hle ⊢
  have key : ∀ j, j < 20 → ∃ t, t < 20 ∧ (if j < q then P j else if j = q then P n else if j ≤ n then P (j - 1) else P j) = P t ∧ ((j < q ∧ t = j) ∨ (j = q ∧ t = n) ∨ (q < j ∧ j ≤ n ∧ t = j - 1) ∨ (n < j ∧ t = j)) := by
    intro j hj
    by_cases h1 : j < q
    · exact ⟨j, hj, by rw [if_pos h1], Or.inl ⟨h1, rfl⟩⟩
    · by_cases h2 : j = q
      · exact ⟨n, hlt, by rw [if_neg h1, if_pos h2], Or.inr (Or.inl ⟨h2, rfl⟩)⟩
      · by_cases h3 : j ≤ n
        · exact ⟨j - 1, by omega, by rw [if_neg h1, if_neg h2, if_pos h3], Or.inr (Or.inr (Or.inl ⟨by omega, h3, rfl⟩))⟩
        · exact ⟨j, hj, by rw [if_neg h1, if_neg h2, if_neg h3], Or.inr (Or.inr (Or.inr ⟨by omega, rfl⟩))⟩
  refine ⟨rfl, rfl, ⟨fun j => if j < q then P j else if j = q then P n else if j ≤ n then P (j - 1) else P j, ⟨by simp [up2_app], by omega, fun j hj => ?_⟩, fun j hj f hf => ?_⟩, fun a ha => ?_, fun a ha => ?_, ?_⟩
  · obtain ⟨t, ht, e, hcs⟩ := key j hj
    dsimp only
    rw [e]
    refine ⟨?_, (hP t ht).2.1, (hP t ht).2.2.1, fun i hi2 he => ?_⟩
    · simp only [up2_app, shR]
      rcases hcs with ⟨z1, rfl⟩ | ⟨z1, rfl⟩ | ⟨z1, z2, rfl⟩ | ⟨z1, rfl⟩
      · rw [if_neg (fun z => by omega), if_neg (fun z => by omega)]
        exact (hP _ ht).1
      · rw [if_pos ⟨trivial, z1⟩]
      · rw [if_neg (fun z => by omega), if_pos ⟨trivial, z1, z2⟩]
      · rw [if_neg (fun z => by omega), if_neg (fun z => by omega)]
        exact (hP _ ht).1
    · obtain ⟨u, hu, e2, hcs2⟩ := key i hi2
      rw [e2] at he
      have := (hP t ht).2.2.2 u hu he
      omega
  · obtain ⟨t, ht, e, hcs⟩ := key j (by omega)
    dsimp only
    rw [e, up2_other _ _ _ _ (by have := hP t ht; omega)]
    rcases hcs with ⟨z1, rfl⟩ | ⟨z1, rfl⟩ | ⟨z1, z2, rfl⟩ | ⟨z1, rfl⟩
    · rw [if_pos z1, cp0_other (fun z => by have := (hP n hlt).2.2.2 t (by omega) z; omega)]
      exact hK t (by omega) f hf
    · rw [if_neg (by omega), if_pos z1, cp0_in hf]
      exact hi f hf
    · rw [if_neg (by omega), if_neg (by omega), cp0_other (fun z => by have := (hP n hlt).2.2.2 (j - 1) (by omega) z; omega)]
      exact hK (j - 1) (by omega) f hf
    · omega
  · have := hP n hlt
    funext t
    rw [up2_other _ _ _ _ (by omega), cp0_other (by omega)]
  · funext t
    rw [up2_other _ _ _ _ (by omega), shR_other (by omega)]
  · have hsh : ∀ k, q + k ≤ n → FR (shR R b P n (n - k)) := by
      intro k hk
      induction k with
      | zero => rw [Nat.sub_zero, shR_n]; exact hFR
      | succ k ih =>
        rw [← shR_step R b P n (n - (k + 1)) (by omega), show n - (k + 1) + 1 = n - k by omega]
        exact (ih (by omega)).upd (raA_2 hB)
    have h9 := hsh (n - q) (by omega)
    rw [show n - (n - q) = q by omega] at h9
    exact h9.upd (raA_2 hB)
theorem S_dropC (b n i : Nat) (K : Nat → Nat → Int32) (key : Int32) (I : MI) (R : MR) (hB : isB b) (hFR : FR R) (hT : TabC I R b K n) (hf : fndF (fun j => K j 0 = key) 0 n = some i) : Sp 0 0 0 mX8_drop [.ref (b + 1), .int key] g0 I R (TPo b I R (delK K i) (n - 1)) := by
  obtain ⟨P, hS, hK⟩ := hT
  obtain ⟨-, hin, hkey, hfst⟩ := fndF_some hf
  have hin : i < n := by omega
  refine (S_drop b n i P key I R hB hFR hS hin (by rw [hK i hin 0 (by decide)]; exact hkey) (fun t ht => by rw [hK t (by omega) 0 (by decide)]; exact hfst t (by omega) ht)).weaken ?_
  rintro r g' I' R' ⟨rfl, rfl, rfl, rfl⟩
  have hP := hS.2.2
  have hn20 := hS.2.1
  have key : ∀ j, j < 20 → ∃ t, t < 20 ∧ cutF P i n j = P t ∧ ((j < i ∧ t = j) ∨ (i ≤ j ∧ j + 1 < n ∧ t = j + 1) ∨ (j + 1 = n ∧ t = i) ∨ (n ≤ j ∧ t = j)) := by
    intro j hj
    unfold cutF
    by_cases h1 : j < i
    · exact ⟨j, hj, by rw [if_pos h1], Or.inl ⟨h1, rfl⟩⟩
    · by_cases h2 : j + 1 < n
      · exact ⟨j + 1, by omega, by rw [if_neg h1, if_pos h2], Or.inr (Or.inl ⟨by omega, h2, rfl⟩)⟩
      · by_cases h3 : j + 1 = n
        · exact ⟨i, by omega, by rw [if_neg h1, if_neg h2, if_pos h3], Or.inr (Or.inr (Or.inl ⟨h3, rfl⟩))⟩
        · exact ⟨j, hj, by rw [if_neg h1, if_neg h2, if_neg h3], Or.inr (Or.inr (Or.inr ⟨by omega, rfl⟩))⟩
  refine ⟨rfl, rfl, ⟨cutF P i n, ⟨by simp [up2_app], by omega, fun j hj => ?_⟩, fun j hj f hf => ?_⟩, fun a ha => ?_, fun a ha => ?_, ?_⟩
  · obtain ⟨t, ht, e, hcs⟩ := key j hj
    rw [e]
    refine ⟨?_, (hP t ht).2.1, (hP t ht).2.2.1, fun x hx he => ?_⟩
    · simp only [dR]
      rcases hcs with ⟨z1, rfl⟩ | ⟨z1, z2, rfl⟩ | ⟨z1, rfl⟩ | ⟨z1, rfl⟩
      · rw [if_neg (fun z => by omega)]
        exact (hP _ ht).1
      · rw [if_pos ⟨trivial, z1, by omega⟩, if_pos z2]
      · rw [if_pos ⟨trivial, by omega, by omega⟩, if_neg (by omega)]
      · rw [if_neg (fun z => by omega)]
        exact (hP _ ht).1
    · obtain ⟨u, hu, e2, hcs2⟩ := key x hx
      rw [e2] at he
      have := (hP t ht).2.2.2 u hu he
      omega
  · obtain ⟨t, ht, e, hcs⟩ := key j (by omega)
    have h9 := hP t ht
    rw [e, up2_other _ _ _ _ (by omega)]
    unfold delK
    rcases hcs with ⟨z1, rfl⟩ | ⟨z1, z2, rfl⟩ | ⟨z1, rfl⟩ | ⟨z1, rfl⟩
    · rw [if_pos z1]
      exact hK t (by omega) f hf
    · rw [if_neg (by omega)]
      exact hK (j + 1) (by omega) f hf
    · omega
    · omega
  · funext t
    rw [up2_other _ _ _ _ (by omega)]
  · funext t
    rw [dR_other (by omega)]
  · have hsh : ∀ k, FR (dR R b P n i (i + k)) := by
      intro k
      induction k with
      | zero => rw [show i + 0 = i from rfl, dR_0]; exact hFR
      | succ k ih =>
        rw [show i + (k + 1) = (i + k) + 1 by omega, ← dR_step R b P n i (i + k) (by omega)]
        exact ih.upd (raA_2 hB)
    have h9 := hsh (n - i)
    rw [show i + (n - i) = n by omega] at h9
    exact h9
theorem TabQ_put {I : MI} {R : MR} {b n i x : Nat} {P : Nat → Nat} {K : Nat → Nat → Int32} {img : Nat → Int32} (hS : TS I R b P n) (hK : ∀ j, j < n → ∀ f, f < 4 → I (P j) f = K j f) (hi : i < n) (hx : ∀ f, f < 4 → I x f = img f) : TabC (cp0 I x (P i) 4) R b (putK K i img) n := by
  have hP := hS.2.2
  have hn20 := hS.2.1
  refine ⟨P, ⟨?_, hS.2.1, hP⟩, fun j hj f hf => ?_⟩
  · rw [cp0_other (by have := hP i (by omega); omega)]
    exact hS.1
  · unfold putK
    by_cases e : j = i
    · subst e
      rw [if_pos rfl, cp0_in hf]
      exact hx f hf
    · rw [if_neg e, cp0_other (fun z => e ((hP i (by omega)).2.2.2 j (by omega) z))]
      exact hK j hj f hf
