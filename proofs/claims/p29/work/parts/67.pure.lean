/-! Pure words: common subsequences, rows of verbs, the best pair. -/
def lrN (prev : Nat → Nat) (e : Nat → Bool) : Nat → Nat
  | 0 => 0
  | k + 1 => if e k = true then prev k + 1 else if prev (k + 1) < lrN prev e k then lrN prev e k else prev (k + 1)
def lcN (e : Nat → Nat → Bool) : Nat → Nat → Nat
  | 0 => fun _ => 0
  | i + 1 => lrN (lcN e i) (e i)
theorem lcN_s {e : Nat → Nat → Bool} {i j : Nat} : lcN e (i + 1) (j + 1) = if e i j = true then lcN e i j + 1 else if lcN e i (j + 1) < lcN e (i + 1) j then lcN e (i + 1) j else lcN e i (j + 1) := rfl
theorem lcN_0 {e : Nat → Nat → Bool} {i : Nat} : lcN e i 0 = 0 := by cases i <;> rfl
theorem lcN_z {e : Nat → Nat → Bool} {j : Nat} : lcN e 0 j = 0 := rfl
theorem lc_A {e : Nat → Nat → Bool} {i j : Nat} (h1 : lcN e i j ≤ lcN e (i + 1) j ∧ lcN e (i + 1) j ≤ lcN e i j + 1) (h2 : lcN e i j ≤ lcN e i (j + 1) ∧ lcN e i (j + 1) ≤ lcN e i j + 1) : (lcN e i (j + 1) ≤ lcN e (i + 1) (j + 1) ∧ lcN e (i + 1) (j + 1) ≤ lcN e i (j + 1) + 1) ∧ (lcN e (i + 1) j ≤ lcN e (i + 1) (j + 1) ∧ lcN e (i + 1) (j + 1) ≤ lcN e (i + 1) j + 1) := by
  rw [lcN_s]
  split
  · omega
  · split <;> omega
theorem lc_vh {e : Nat → Nat → Bool} : ∀ (s i j : Nat), i + j ≤ s → (lcN e i j ≤ lcN e (i + 1) j ∧ lcN e (i + 1) j ≤ lcN e i j + 1) ∧ (lcN e i j ≤ lcN e i (j + 1) ∧ lcN e i (j + 1) ≤ lcN e i j + 1) := by
  intro s
  induction s with
  | zero =>
    intro i j h
    obtain rfl : i = 0 := by omega
    obtain rfl : j = 0 := by omega
    rw [lcN_0, lcN_0, lcN_z]
    omega
  | succ s ih =>
    intro i j h
    constructor
    · cases j with
      | zero => rw [lcN_0, lcN_0]; omega
      | succ j =>
        have q := ih i j (by omega)
        exact (lc_A q.1 q.2).1
    · cases i with
      | zero => rw [lcN_z, lcN_z]; omega
      | succ i =>
        have q := ih i j (by omega)
        exact (lc_A q.1 q.2).2
theorem lc_V {e : Nat → Nat → Bool} {i j : Nat} : lcN e i j ≤ lcN e (i + 1) j ∧ lcN e (i + 1) j ≤ lcN e i j + 1 := (lc_vh (i + j) i j (Nat.le_refl _)).1
theorem lc_H {e : Nat → Nat → Bool} {i j : Nat} : lcN e i j ≤ lcN e i (j + 1) ∧ lcN e i (j + 1) ≤ lcN e i j + 1 := (lc_vh (i + j) i j (Nat.le_refl _)).2
theorem lc_li {e : Nat → Nat → Bool} {j : Nat} : ∀ i, lcN e i j ≤ i := by
  intro i
  induction i with
  | zero => exact Nat.le_refl _
  | succ i ih => have := (lc_V (e := e) (i := i) (j := j)).2; omega
theorem lc_lj {e : Nat → Nat → Bool} {i : Nat} : ∀ j, lcN e i j ≤ j := by
  intro j
  induction j with
  | zero => rw [lcN_0]; exact Nat.le_refl _
  | succ j ih => have := (lc_H (e := e) (i := i) (j := j)).2; omega
theorem lc_diag {e : Nat → Nat → Bool} : ∀ n, (∀ k, k < n → e k k = true) → lcN e n n = n := by
  intro n
  induction n with
  | zero => intro _; rfl
  | succ n ih =>
    intro h
    rw [lcN_s, if_pos (h n (by omega)), ih (fun k hk => h k (by omega))]
theorem lc_full {e : Nat → Nat → Bool} : ∀ n, lcN e n n = n → ∀ k, k < n → e k k = true := by
  intro n
  induction n with
  | zero => intro _ k hk; omega
  | succ n ih =>
    intro h k hk
    rw [lcN_s] at h
    have a1 := lc_li (e := e) (j := n + 1) n
    have a2 := lc_lj (e := e) (i := n + 1) n
    by_cases he : e n n = true
    · rw [if_pos he] at h
      by_cases hkn : k = n
      · subst hkn; exact he
      · exact ih (by omega) k (by omega)
    · rw [if_neg he] at h
      split at h <;> omega
theorem lc_sym {e e' : Nat → Nat → Bool} (h : ∀ p q, e' q p = e p q) : ∀ (s i j : Nat), i + j ≤ s → lcN e' j i = lcN e i j := by
  intro s
  induction s with
  | zero =>
    intro i j h
    obtain rfl : i = 0 := by omega
    obtain rfl : j = 0 := by omega
    rfl
  | succ s ih =>
    intro i j hs
    cases i with
    | zero => rw [lcN_0, lcN_z]
    | succ i =>
      cases j with
      | zero => rw [lcN_0, lcN_z]
      | succ j =>
        rw [lcN_s, lcN_s, h, ih i j (by omega), ih (i + 1) j (by omega), ih i (j + 1) (by omega)]
        split
        · rfl
        · split <;> split <;> omega
theorem lc_mono {e e' : Nat → Nat → Bool} (h : ∀ p q, e p q = true → e' p q = true) : ∀ (s i j : Nat), i + j ≤ s → lcN e i j ≤ lcN e' i j := by
  intro s
  induction s with
  | zero =>
    intro i j h
    obtain rfl : i = 0 := by omega
    rw [lcN_z]
    omega
  | succ s ih =>
    intro i j hs
    cases i with
    | zero => rw [lcN_z]; omega
    | succ i =>
      cases j with
      | zero => rw [lcN_0]; omega
      | succ j =>
        have i1 := ih i j (by omega)
        have i2 := ih (i + 1) j (by omega)
        have i3 := ih i (j + 1) (by omega)
        have v := lc_V (e := e') (i := i) (j := j)
        have g := lc_H (e := e') (i := i) (j := j)
        rw [lcN_s, lcN_s]
        by_cases he : e i j = true
        · rw [if_pos he, if_pos (h i j he)]
          omega
        · rw [if_neg he]
          by_cases he' : e' i j = true
          · rw [if_pos he']
            split <;> omega
          · rw [if_neg he']
            split <;> split <;> omega
theorem lrF_nI {prev : Nat → Int32} {pn : Nat → Nat} {e : Nat → Bool} (hp : ∀ k, k ≤ 12 → prev k = nI (pn k) ∧ pn k ≤ 100) (hl : ∀ k, k ≤ 12 → lrN pn e k ≤ 100) : ∀ k, k ≤ 12 → lcsR prev e k = nI (lrN pn e k) := by
  intro k
  induction k with
  | zero => intro _; rfl
  | succ k ih =>
    intro hk
    have h1 := ih (by omega)
    show (if e k = true then prev k + 1 else if prev (k + 1) < lcsR prev e k then lcsR prev e k else prev (k + 1)) = nI (if e k = true then pn k + 1 else if pn (k + 1) < lrN pn e k then lrN pn e k else pn (k + 1))
    have l1 := hl k (by omega)
    obtain ⟨p1, p2⟩ := hp k (by omega)
    obtain ⟨p3, p4⟩ := hp (k + 1) hk
    rw [h1, p1, p3]
    by_cases he : e k = true
    · rw [if_pos he, if_pos he]
      exact ninc (pn k)
    · rw [if_neg he, if_neg he]
      by_cases hc : pn (k + 1) < lrN pn e k
      · rw [if_pos hc, if_pos ((nlt (by omega) (by omega)).mpr hc)]
      · rw [if_neg hc, if_neg (fun z => hc ((nlt (by omega) (by omega)).mp z))]
theorem lcF_nI {e : Nat → Nat → Bool} : ∀ i, i ≤ 12 → ∀ j, j ≤ 12 → lcsF e i j = nI (lcN e i j) := by
  intro i
  induction i with
  | zero => intro _ j _; rfl
  | succ i ih =>
    intro hi j hj
    exact lrF_nI (fun k hk => ⟨ih (by omega) k hk, by have := lc_lj (e := e) (i := i) k; omega⟩) (fun k hk => by have := lc_lj (e := e) (i := i + 1) k; exact Nat.le_trans this (by omega)) j hj
/-- how many places are alike -/
def cN (f g : Nat → Int32) : Nat → Nat
  | 0 => 0
  | k + 1 => cN f g k + (if f k = g k then 1 else 0)
theorem cN_le {f g : Nat → Int32} : ∀ n, cN f g n ≤ n := by
  intro n
  induction n with
  | zero => exact Nat.le_refl _
  | succ n ih => show cN f g n + _ ≤ _; split <;> omega
theorem cntEq_cN {f g : Nat → Int32} : ∀ n, cntEq f g n = nI (cN f g n) := by
  intro n
  induction n with
  | zero => rfl
  | succ n ih =>
    show cntEq f g n + bI (f n = g n) = nI (cN f g n + _)
    rw [ih]
    by_cases h : f n = g n
    · rw [bI_t h, if_pos h]
      exact ninc _
    · rw [bI_f h, if_neg h]
      exact i_add0 _
theorem cN_lc {f g : Nat → Int32} {e : Nat → Nat → Bool} : ∀ n, (∀ k, k < n → f k = g k → e k k = true) → cN f g n ≤ lcN e n n := by
  intro n
  induction n with
  | zero => intro _; exact Nat.le_refl _
  | succ n ih =>
    intro h
    have h1 := ih (fun k hk => h k (by omega))
    show cN f g n + _ ≤ _
    have v := lc_V (e := e) (i := n) (j := n)
    have g1 := lc_H (e := e) (i := n + 1) (j := n)
    by_cases he : f n = g n
    · rw [if_pos he, lcN_s, if_pos (h n (by omega) he)]
      omega
    · rw [if_neg he]
      omega
/-- how many rows of verbs -/
def rN (lk : Nat → Nat → Bool) : Nat → Nat
  | 0 => 0
  | i + 1 => rN lk i + (if ∀ m, m < i → lk i m = false then 1 else 0)
theorem rN_le {lk : Nat → Nat → Bool} : ∀ n, rN lk n ≤ n := by
  intro n
  induction n with
  | zero => exact Nat.le_refl _
  | succ n ih => show rN lk n + _ ≤ _; split <;> omega
theorem rows_rN {lk : Nat → Nat → Bool} : ∀ n, rowsN lk n = nI (rN lk n) := by
  intro n
  induction n with
  | zero => rfl
  | succ n ih =>
    show rowsN lk n + bI (∀ m, m < n → lk n m = false) = nI (rN lk n + _)
    rw [ih]
    by_cases h : ∀ m, m < n → lk n m = false
    · rw [bI_t h, if_pos h]
      exact ninc _
    · rw [bI_f h, if_neg h]
      exact i_add0 _
theorem rN_pos {lk : Nat → Nat → Bool} : ∀ n, 1 ≤ rN lk (n + 1) := by
  intro n
  induction n with
  | zero =>
    show 1 ≤ 0 + _
    rw [if_pos (fun m hm => absurd hm (Nat.not_lt_zero m))]
    exact Nat.le_refl _
  | succ n ih => show 1 ≤ rN lk (n + 1) + _; omega
theorem rN_full {lk : Nat → Nat → Bool} : ∀ n, rN lk n = n ↔ ∀ i, i < n → ∀ m, m < i → lk i m = false := by
  intro n
  induction n with
  | zero => exact ⟨fun _ i hi => absurd hi (by omega), fun _ => rfl⟩
  | succ n ih =>
    have hl := rN_le (lk := lk) n
    by_cases h : ∀ m, m < n → lk n m = false
    · have e : rN lk (n + 1) = rN lk n + 1 := by show rN lk n + _ = _; rw [if_pos h]
      rw [e]
      constructor
      · intro z i hi
        by_cases hin : i = n
        · subst hin; exact h
        · exact ih.mp (by omega) i (by omega)
      · intro z
        have := ih.mpr (fun i hi => z i (by omega))
        omega
    · have e : rN lk (n + 1) = rN lk n := by show rN lk n + _ = _; rw [if_neg h]; rfl
      rw [e]
      constructor
      · intro z; omega
      · intro z; exact absurd (z n (by omega)) h
/-- what the search for the best pair holds, the pairs in front of (i, j) done -/
def bpV (lk : Nat → Nat → Bool) (cn : Nat → Nat → Int32) (tc i j : Nat) (s : Int32 × Int32) : Prop := (s = (-5, -1) ∧ ∀ p q, p < q → q < tc → (p < i ∨ (p = i ∧ q < j)) → lk p q = false) ∨ (∃ p q, p < q ∧ q < tc ∧ lk p q = true ∧ s = (10 * nI p + nI q, cn p q))
theorem bpI_V {lk : Nat → Nat → Bool} {cn : Nat → Nat → Int32} {tc i : Nat} (hcn : ∀ p q, p < q → q < tc → lk p q = true → ∃ c, c ≤ 12 ∧ cn p q = nI c) : ∀ (m j : Nat) (s : Int32 × Int32), i < j → j + m = tc → bpV lk cn tc i j s → bpV lk cn tc (i + 1) (i + 2) (bpI lk cn i j m s) := by
  intro m
  induction m with
  | zero =>
    intro j s hij hj h
    rcases h with ⟨h1, h2⟩ | h
    · exact Or.inl ⟨h1, fun p q a1 a2 a3 => h2 p q a1 a2 (by omega)⟩
    · exact Or.inr h
  | succ m ih =>
    intro j s hij hj h
    refine ih (j + 1) _ (by omega) (by omega) ?_
    show bpV lk cn tc i (j + 1) (if lk i j = true ∧ s.2 < cn i j then (10 * nI i + nI j, cn i j) else s)
    by_cases hc : lk i j = true ∧ s.2 < cn i j
    · rw [if_pos hc]
      exact Or.inr ⟨i, j, hij, by omega, hc.1, rfl⟩
    · rw [if_neg hc]
      rcases h with ⟨h1, h2⟩ | h
      · refine Or.inl ⟨h1, fun p q a1 a2 a3 => ?_⟩
        by_cases hpq : p = i ∧ q = j
        · obtain ⟨rfl, rfl⟩ := hpq
          cases hl : lk p q with
          | false => rfl
          | true =>
            exfalso
            refine hc ⟨hl, ?_⟩
            obtain ⟨c, c1, c2⟩ := hcn p q a1 a2 hl
            rw [h1, c2, i_lt, nI_toInt (by omega)]
            have : ((-1 : Int32)).toInt = -1 := rfl
            show (-1 : Int32).toInt < _
            omega
        · exact h2 p q a1 a2 (by omega)
      · exact Or.inr h
theorem bpO_V {lk : Nat → Nat → Bool} {cn : Nat → Nat → Int32} {tc : Nat} (hcn : ∀ p q, p < q → q < tc → lk p q = true → ∃ c, c ≤ 12 ∧ cn p q = nI c) : ∀ (m i : Nat) (s : Int32 × Int32), i + m = tc → bpV lk cn tc i (i + 1) s → bpV lk cn tc tc (tc + 1) (bpO lk cn tc i m s) := by
  intro m
  induction m with
  | zero =>
    intro i s hi h
    obtain rfl : i = tc := by omega
    exact h
  | succ m ih =>
    intro i s hi h
    exact ih (i + 1) _ (by omega) (bpI_V hcn (tc - (i + 1)) (i + 1) s (by omega) (by omega) h)
theorem bpO_end {lk : Nat → Nat → Bool} {cn : Nat → Nat → Int32} {tc : Nat} (hcn : ∀ p q, p < q → q < tc → lk p q = true → ∃ c, c ≤ 12 ∧ cn p q = nI c) : (bpO lk cn tc 0 tc (-5, -1) = (-5, -1) ∧ ∀ p q, p < q → q < tc → lk p q = false) ∨ (∃ p q, p < q ∧ q < tc ∧ lk p q = true ∧ bpO lk cn tc 0 tc (-5, -1) = (10 * nI p + nI q, cn p q)) := by
  rcases bpO_V hcn tc 0 (-5, -1) (by omega) (Or.inl ⟨rfl, fun p q a1 a2 a3 => by omega⟩) with ⟨h1, h2⟩ | h
  · exact Or.inl ⟨h1, fun p q a1 a2 => h2 p q a1 a2 (by omega)⟩
  · exact Or.inr h
