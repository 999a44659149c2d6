/-! The calls on both sides: what changes nothing. -/
theorem isIx_30 {x0 : Int32} : isIx x0 30 ↔ 0 ≤ x0 ∧ x0 ≤ 29 := by
  unfold isIx
  rw [i_le, i_le]
  have e0 : (0 : Int32).toInt = 0 := rfl
  have e1 : (29 : Int32).toInt = 29 := rfl
  omega
theorem cntEq_cg {f g f' g' : Nat → Int32} : ∀ {k : Nat}, (∀ i, i < k → f i = f' i ∧ g i = g' i) → cntEq f g k = cntEq f' g' k := by
  intro k
  induction k with
  | zero => intro _; rfl
  | succ k ih =>
    intro h
    obtain ⟨h1, h2⟩ := h k (by omega)
    show cntEq f g k + bI (f k = g k) = cntEq f' g' k + bI (f' k = g' k)
    rw [ih (fun i hi => h i (by omega)), h1, h2]
theorem cntEq_nI {f g : Nat → Int32} : ∀ (k : Nat), ∃ c, c ≤ k ∧ cntEq f g k = nI c := by
  intro k
  induction k with
  | zero => exact ⟨0, by omega, rfl⟩
  | succ k ih =>
    obtain ⟨c, h1, h2⟩ := ih
    by_cases h : f k = g k
    · refine ⟨c + 1, by omega, ?_⟩
      show cntEq f g k + bI (f k = g k) = _
      rw [h2, bI_t h]
      exact nadd rfl (nlit (n := 1))
    · refine ⟨c, by omega, ?_⟩
      show cntEq f g k + bI (f k = g k) = _
      rw [h2, bI_f h, i_add0]
theorem sumF_cg {f g : Nat → Int32} : ∀ {k : Nat}, (∀ i, i < k → f i = g i) → sumF f k = sumF g k := by
  intro k
  induction k with
  | zero => intro _; rfl
  | succ k ih =>
    intro h
    show sumF f k + f k = sumF g k + g k
    rw [ih (fun i hi => h i (by omega)), h k (by omega)]
theorem rowsN_cg {lk lk' : Nat → Nat → Bool} : ∀ {k : Nat}, (∀ i m, i < k → m < i → lk i m = lk' i m) → rowsN lk k = rowsN lk' k := by
  intro k
  induction k with
  | zero => intro _; rfl
  | succ k ih =>
    intro h
    show rowsN lk k + bI (∀ m, m < k → lk k m = false) = rowsN lk' k + bI (∀ m, m < k → lk' k m = false)
    rw [ih (fun i m hi hm => h i m (by omega) hm)]
    congr 1
    refine bI_cg ⟨fun q m hm => by rw [← h k m (by omega) hm]; exact q m hm, fun q m hm => by rw [h k m (by omega) hm]; exact q m hm⟩
theorem lcsR_cg {p p' : Nat → Int32} {e e' : Nat → Bool} : ∀ {k : Nat}, (∀ i, i ≤ k → p i = p' i) → (∀ i, i < k → e i = e' i) → lcsR p e k = lcsR p' e' k := by
  intro k
  induction k with
  | zero => intro _ _; rfl
  | succ k ih =>
    intro h1 h2
    have := ih (fun i hi => h1 i (by omega)) (fun i hi => h2 i (by omega))
    simp only [lcsR]
    rw [this, h2 k (by omega), h1 k (by omega), h1 (k + 1) (by omega)]
theorem lcsF_cg {e e' : Nat → Nat → Bool} {lj : Nat} : ∀ {i : Nat}, (∀ p q, p < i → q < lj → e p q = e' p q) → ∀ k, k ≤ lj → lcsF e i k = lcsF e' i k := by
  intro i
  induction i with
  | zero => intro _ k _; rfl
  | succ i ih =>
    intro h k hk
    show lcsR (lcsF e i) (e i) k = lcsR (lcsF e' i) (e' i) k
    exact lcsR_cg (fun q hq => ih (fun p q hp hq => h p q (by omega) hq) q (by omega)) (fun q hq => h i q (by omega) (by omega))
def bpRl (s s' : Int32 × Int32) : Prop := (s = s' ∧ s.1 ≠ -5) ∨ (s = (-5, -1) ∧ s' = (-5, -5))
theorem m5_lt {c : Nat} (h : c ≤ 12) : (-5 : Int32) < nI c ∧ (-1 : Int32) < nI c := by
  rw [i_lt, i_lt, nI_toInt (by omega)]
  have e1 : (-5 : Int32).toInt = -5 := rfl
  have e2 : (-1 : Int32).toInt = -1 := rfl
  omega
theorem ij_ne {i j : Nat} (hi : i < 10) (hj : j < 10) : 10 * nI i + nI j ≠ -5 := by
  have e : 10 * nI i + nI j = nI (10 * i + j) := nadd (nmul (nlit (n := 10)) rfl) rfl
  rw [e]
  intro z
  have := congrArg Int32.toInt z
  rw [nI_toInt (by omega)] at this
  have e1 : (-5 : Int32).toInt = -5 := rfl
  omega
theorem bpS_rl {lk lk' : Nat → Nat → Bool} {cn cn' : Nat → Nat → Int32} {i j : Nat} {s s' : Int32 × Int32} (hi : i < 10) (hj : j < 10) (h1 : lk i j = lk' i j) (h2 : lk i j = true → cn i j = cn' i j ∧ ∃ c, c ≤ 12 ∧ cn i j = nI c) (h : bpRl s s') : bpRl (bpS lk cn i j s) (bpS lk' cn' i j s') := by
  unfold bpS
  by_cases hl : lk i j = true
  · obtain ⟨e1, c, hc, e2⟩ := h2 hl
    have hl' : lk' i j = true := by rw [← h1]; exact hl
    obtain ⟨m5, m1⟩ := m5_lt hc
    rcases h with ⟨rfl, h⟩ | ⟨rfl, rfl⟩
    · rw [← e1]
      by_cases hs : s.2 < cn i j
      · rw [if_pos ⟨hl, hs⟩, if_pos ⟨hl', hs⟩]
        exact Or.inl ⟨rfl, ij_ne hi hj⟩
      · rw [if_neg (fun z => hs z.2), if_neg (fun z => hs z.2)]
        exact Or.inl ⟨rfl, h⟩
    · rw [if_pos ⟨hl, by rw [e2]; exact m1⟩, if_pos ⟨hl', by rw [← e1, e2]; exact m5⟩, ← e1]
      exact Or.inl ⟨rfl, ij_ne hi hj⟩
  · have hl' : ¬ lk' i j = true := by rw [← h1]; exact hl
    rw [if_neg (fun z => hl z.1), if_neg (fun z => hl' z.1)]
    exact h
theorem bpI_rl {lk lk' : Nat → Nat → Bool} {cn cn' : Nat → Nat → Int32} {i tc : Nat} (hi : i < 10) (htc : tc ≤ 6) (h : ∀ j, i < j → j < tc → lk i j = lk' i j ∧ (lk i j = true → cn i j = cn' i j ∧ ∃ c, c ≤ 12 ∧ cn i j = nI c)) : ∀ (m j : Nat) (s s' : Int32 × Int32), i < j → j + m ≤ tc → bpRl s s' → bpRl (bpI lk cn i j m s) (bpI lk' cn' i j m s') := by
  intro m
  induction m with
  | zero => intro j s s' _ _ h; exact h
  | succ m ih =>
    intro j s s' h1 h2 h3
    obtain ⟨q1, q2⟩ := h j h1 (by omega)
    exact ih (j + 1) _ _ (by omega) (by omega) (bpS_rl hi (by omega) q1 q2 h3)
theorem bpO_rl {lk lk' : Nat → Nat → Bool} {cn cn' : Nat → Nat → Int32} {tc : Nat} (htc : tc ≤ 6) (h : ∀ i j, i < j → j < tc → lk i j = lk' i j ∧ (lk i j = true → cn i j = cn' i j ∧ ∃ c, c ≤ 12 ∧ cn i j = nI c)) : ∀ (m i : Nat) (s s' : Int32 × Int32), i + m ≤ tc → bpRl s s' → bpRl (bpO lk cn tc i m s) (bpO lk' cn' tc i m s') := by
  intro m
  induction m with
  | zero => intro i s s' _ h; exact h
  | succ m ih =>
    intro i s s' h2 h3
    exact ih (i + 1) _ _ (by omega) (bpI_rl (by omega) htc (fun j a b => h i j a b) _ _ _ _ (by omega) (by omega) h3)
section CLS
variable {G : GT} {l : Launch} {sz a : Nat} {C : CT}
theorem op_cell (x1 : Int32) (hJ : JE C) : ∃ v : Int32, Ct G l yX6_cell cX6_cell 2 (some .int) 1 0 0 sz [.ref a, .int x1] (B G a C) (Rx G a v (fun C' => Ct G l yX7_cell cX7_cell 2 (some .int) 1 0 0 sz [.ref (a + 105), .int x1] (B G a C') (Rx G a v JE))) := by
  obtain ⟨st, n0, hJ⟩ := hJ
  obtain ⟨a1, a2, a3, a4, a5, -⟩ := id hJ
  obtain ⟨hd, tc, op, lc, b1, b2, b3, b4, b5, b6, b7, b8, b9, c1, c2, c3, c4, c5, c6, c7⟩ := stR_ex a5
  refine ⟨_, Rx_w (tX6_cell x1) ?_⟩
  by_cases hx : isIx x1 30
  · rw [if_pos hx]
    obtain ⟨n, hn, rfl⟩ := ix_ex hx
    have e : (nI n).toInt.toNat = n := by rw [nI_toInt (by omega)]; rfl
    rw [e]
    exact Rx_we (b4 n hn) (tX7_cell hn) ⟨st, n0, hJ⟩
  · rw [if_neg hx]
    exact Rx_w (tX7_cell_o x1 (fun z => hx (isIx_30.mpr z))) ⟨st, n0, hJ⟩
theorem op_ofTry (x1 x2 x3 : Int32) (hJ : JE C) : ∃ v : Int32, Ct G l yX6_ofTry cX6_ofTry 5 (some .int) 2 0 0 sz [.ref a, .int x1, .int x2, .int x3] (B G a C) (Rx G a v (fun C' => Ct G l yX7_ofTry cX7_ofTry 5 (some .int) 2 0 0 sz [.ref (a + 105), .int x1, .int x2, .int x3] (B G a C') (Rx G a v JE))) := by
  obtain ⟨st, n0, hJ⟩ := hJ
  obtain ⟨a1, a2, a3, a4, a5, -⟩ := id hJ
  obtain ⟨hd, tc, op, lc, b1, b2, b3, b4, b5, b6, b7, b8, b9, c1, c2, c3, c4, c5, c6, c7⟩ := stR_ex a5
  have op1 : C 106 32 = 1 ↔ op = 1 := by
    rw [c2]
    exact ceq rfl nlit (by omega) (by decide)
  have op2 : C 1 0 = 1 ↔ op = 1 := by
    rw [c1]
    exact ceq rfl nlit (by omega) (by decide)
  have pos : ∀ n, n < tc ∨ (op = 1 ∧ n = tc) → ∃ v : Int32, Ct G l yX6_ofTry cX6_ofTry 5 (some .int) 2 0 0 sz [.ref a, .int (nI n), .int x2, .int x3] (B G a C) (Rx G a v (fun C' => Ct G l yX7_ofTry cX7_ofTry 5 (some .int) 2 0 0 sz [.ref (a + 105), .int (nI n), .int x2, .int x3] (B G a C') (Rx G a v JE))) := by
    intro n hn
    obtain ⟨len, i1, i2, i3⟩ := c6 n (by omega)
    obtain ⟨t1, t2, t3⟩ := trR_ex i3
    refine ⟨_, Rx_w (tX6_ofTry (tc := tc) (n := n) (len := len) x2 x3 b8 b6 (stR_op a5) (fun z => by have := op2.mp z; omega) (hn.imp id (fun z => ⟨op2.mpr z.1, z.2⟩)) t1 i1) (Rx_we ?_ (tX7_ofTry (tc := tc) (n := n) (len := len) x2 x3 b9 b6 (hn.imp id (fun z => ⟨op1.mpr z.1, z.2⟩)) t2 i1) ⟨st, n0, hJ⟩)⟩
    by_cases hx : isIx x2 len
    · obtain ⟨k, hk, rfl⟩ := ix_ex hx
      have e : (nI k).toInt.toNat = k := by rw [nI_toInt (by omega)]; rfl
      rw [if_neg (show ¬ ¬ isIx (nI k) len from fun z => z hx), if_neg (show ¬ ¬ isIx (nI k) len from fun z => z hx), e, (t3 k hk).1, (t3 k hk).2.1]
    · rw [if_pos hx, if_pos hx]
  by_cases hx : isIx x1 tc ∨ (op = 1 ∧ x1 = nI tc)
  · rcases hx with hx | ⟨hx, rfl⟩
    · obtain ⟨n, hn, rfl⟩ := ix_ex hx
      exact pos n (Or.inl hn)
    · exact pos tc (Or.inr ⟨hx, rfl⟩)
  · exact ⟨-1, Rx_w (tX6_ofTry_o x1 x2 x3 b8 b6 (stR_op a5) (fun z => hx (z.imp id (fun w => ⟨op2.mp w.1, w.2⟩)))) (Rx_w (tX7_ofTry_o x1 x2 x3 b9 b6 (fun z => hx (z.imp id (fun w => ⟨op1.mp w.1, w.2⟩)))) ⟨st, n0, hJ⟩)⟩
theorem op_ofLoop (x1 x2 x3 : Int32) (hJ : JE C) : ∃ v : Int32, Ct G l yX6_ofLoop cX6_ofLoop 5 (some .int) 3 0 0 sz [.ref a, .int x1, .int x2, .int x3] (B G a C) (Rx G a v (fun C' => Ct G l yX7_ofLoop cX7_ofLoop 5 (some .int) 2 0 0 sz [.ref (a + 105), .int x1, .int x2, .int x3] (B G a C') (Rx G a v JE))) := by
  obtain ⟨st, n0, hJ⟩ := hJ
  obtain ⟨a1, a2, a3, a4, a5, -⟩ := id hJ
  obtain ⟨hd, tc, op, lc, b1, b2, b3, b4, b5, b6, b7, b8, b9, c1, c2, c3, c4, c5, c6, c7⟩ := stR_ex a5
  by_cases hx : isIx x1 lc
  · obtain ⟨n, hn, rfl⟩ := ix_ex hx
    obtain ⟨len, T, m1, m2, m3, m4, m5⟩ := c7 n hn
    obtain ⟨l1, l2, l3, l4, l5⟩ := lpR_ex m5
    by_cases hx2 : isIx x2 len
    · obtain ⟨k, hk, rfl⟩ := ix_ex hx2
      refine ⟨_, Rx_w (tX6_ofLoop (lc := lc) (n := n) (len := len) (k := k) x3 c4 c3 hn l1 m2 hk) (Rx_we ?_ (tX7_ofLoop (lc := lc) (n := n) (len := len) (k := k) x3 c5 c3 hn l2 m2 hk) ⟨st, n0, hJ⟩)⟩
      obtain ⟨k1, k2, k3, -⟩ := l5 k hk
      rw [k1, k2, k3, l4, l3]
    · exact ⟨-1, Rx_w (tX6_ofLoop_s x2 x3 c4 c3 hn l1 m2 hx2) (Rx_w (tX7_ofLoop_s x2 x3 c5 c3 hn l2 m2 hx2) ⟨st, n0, hJ⟩)⟩
  · exact ⟨-1, Rx_w (tX6_ofLoop_o x1 x2 x3 c4 c3 hx) (Rx_w (tX7_ofLoop_o x1 x2 x3 c5 c3 hx) ⟨st, n0, hJ⟩)⟩
theorem op_length (x1 x2 : Int32) (hJ : JE C) : ∃ v : Int32, Ct G l yX6_length cX6_length 3 (some .int) 1 0 0 sz [.ref a, .int x1, .int x2] (B G a C) (Rx G a v (fun C' => Ct G l yX7_length cX7_length 4 (some .int) 2 0 0 sz [.ref (a + 105), .int x1, .int x2] (B G a C') (Rx G a v JE))) := by
  obtain ⟨st, n0, hJ⟩ := hJ
  obtain ⟨a1, a2, a3, a4, a5, -⟩ := id hJ
  obtain ⟨hd, tc, op, lc, b1, b2, b3, b4, b5, b6, b7, b8, b9, c1, c2, c3, c4, c5, c6, c7⟩ := stR_ex a5
  have hc := tX6_length (G := G) (l := l) (sz := sz) (a := a) (C := C) (tc := tc) (lc := lc) x1 x2 b8 b6 c4 c3
  refine ⟨_, Rx_w hc ?_⟩
  by_cases h0 : x2 = 0
  · subst h0
    rw [if_pos rfl]
    by_cases hx : isIx x1 tc
    · obtain ⟨n, hn, rfl⟩ := ix_ex hx
      have e : (nI n).toInt.toNat = n := by rw [nI_toInt (by omega)]; rfl
      obtain ⟨len, i1, i2, i3⟩ := c6 n (by omega)
      obtain ⟨t1, t2, t3⟩ := trR_ex i3
      rw [if_pos hx, e]
      exact Rx_we (by rw [t1, t2]) (tX7_length_0 b9 b6 hn) ⟨st, n0, hJ⟩
    · rw [if_neg hx]
      exact Rx_w (tX7_length_o x1 0 (by decide) b9 b6 c5 c3 (by rw [if_pos rfl]; exact hx)) ⟨st, n0, hJ⟩
  · rw [if_neg h0]
    by_cases h1 : x2 = 1
    · subst h1
      rw [if_pos rfl]
      by_cases hx : isIx x1 lc
      · obtain ⟨n, hn, rfl⟩ := ix_ex hx
        have e : (nI n).toInt.toNat = n := by rw [nI_toInt (by omega)]; rfl
        obtain ⟨len, T, m1, m2, m3, m4, m5⟩ := c7 n hn
        obtain ⟨l1, l2, l3, l4, l5⟩ := lpR_ex m5
        rw [if_pos hx, e]
        have m1' := tX7_length_1 (G := G) (l := l) (sz := sz) (a := a) (C := C) (lc := lc) (n := n) (w := 1) c5 c3 hn (Or.inl rfl)
        exact Rx_we (by rw [show 212 + 38 * n + 1 = 213 + 38 * n by omega, l2, l1]) m1' ⟨st, n0, hJ⟩
      · rw [if_neg hx]
        exact Rx_w (tX7_length_o x1 1 (by decide) b9 b6 c5 c3 (by rw [if_neg (by decide)]; exact hx)) ⟨st, n0, hJ⟩
    · rw [if_neg h1]
      by_cases h2 : x2 = 2
      · subst h2
        rw [if_pos rfl]
        by_cases hx : isIx x1 lc
        · obtain ⟨n, hn, rfl⟩ := ix_ex hx
          have e : (nI n).toInt.toNat = n := by rw [nI_toInt (by omega)]; rfl
          obtain ⟨len, T, m1, m2, m3, m4, m5⟩ := c7 n hn
          obtain ⟨l1, l2, l3, l4, l5⟩ := lpR_ex m5
          rw [if_pos hx, e]
          have m1' := tX7_length_1 (G := G) (l := l) (sz := sz) (a := a) (C := C) (lc := lc) (n := n) (w := 2) c5 c3 hn (Or.inr rfl)
          exact Rx_we (by rw [show 212 + 38 * n + 2 = 214 + 38 * n by omega, l4, l3]) m1' ⟨st, n0, hJ⟩
        · rw [if_neg hx]
          exact Rx_w (tX7_length_o x1 2 (by decide) b9 b6 c5 c3 (by rw [if_neg (by decide)]; exact hx)) ⟨st, n0, hJ⟩
      · rw [if_neg h2]
        refine Rx_w (tX7_length_r x1 x2 (fun z => ?_)) ⟨st, n0, hJ⟩
        obtain ⟨m, q1, q2⟩ := cl_ex (n := 2) (by decide) z
        rcases (show m = 0 ∨ m = 1 ∨ m = 2 by omega) with w | w | w <;> subst w
        · exact h0 q2
        · exact h1 q2
        · exact h2 q2
theorem op_fits (x1 x2 : Int32) (hJ : JE C) : ∃ v : Int32, Ct G l yX6_fits cX6_fits 7 (some .int) 4 0 0 sz [.ref a, .int x1, .int x2] (B G a C) (Rx G a v (fun C' => Ct G l yX7_fits cX7_fits 6 (some .int) 2 0 0 sz [.ref (a + 105), .int x1, .int x2] (B G a C') (Rx G a v JE))) := by
  obtain ⟨st, n0, hJ⟩ := hJ
  obtain ⟨a1, a2, a3, a4, a5, -⟩ := id hJ
  obtain ⟨hd, tc, op, lc, b1, b2, b3, b4, b5, b6, b7, b8, b9, c1, c2, c3, c4, c5, c6, c7⟩ := stR_ex a5
  by_cases hx : isIx x1 lc ∧ isIx x2 tc
  · obtain ⟨hx1, hx2⟩ := hx
    obtain ⟨n, hn, rfl⟩ := ix_ex hx1
    obtain ⟨i, hi, rfl⟩ := ix_ex hx2
    obtain ⟨len, T, m1, m2, m3, m4, m5⟩ := c7 n hn
    obtain ⟨l1, l2, l3, l4, l5⟩ := lpR_ex m5
    obtain ⟨li, i1, i2, i3⟩ := c6 i (by omega)
    obtain ⟨t1, t2, t3⟩ := trR_ex i3
    refine ⟨_, Rx_w (tX6_fits (tc := tc) (lc := lc) (n := n) (len := len) (i := i) (li := li) b8 b6 c4 c3 hn hi l1 m2 m1 t1 i1) (Rx_se ?_ (tX7_fits (tc := tc) (lc := lc) (n := n) (len := len) (i := i) (li := li) b9 b6 c5 c3 hn hi l2 m2 m1 t2 i1) (fun D hD => JE_SC hD ⟨st, n0, hJ⟩))⟩
    have hk : ∀ k, k % len < len := fun k => Nat.mod_lt _ (by omega)
    have e : fitC C n len i li ↔ fitM (C 106) n len i li := by
      constructor
      · rintro ⟨q1, q2⟩
        refine ⟨q1, fun k hkl => ?_⟩
        obtain ⟨k1, k2, k3, -⟩ := l5 (k % len) (hk k)
        rw [(t3 k hkl).1, (t3 k hkl).2.1, k1, k2, k3]
        exact q2 k hkl
      · rintro ⟨q1, q2⟩
        refine ⟨q1, fun k hkl => ?_⟩
        obtain ⟨k1, k2, k3, -⟩ := l5 (k % len) (hk k)
        have := q2 k hkl
        rw [(t3 k hkl).1, (t3 k hkl).2.1, k1, k2, k3] at this
        exact this
    by_cases hf : fitC C n len i li
    · rw [if_pos hf, if_pos (e.mp hf)]
    · rw [if_neg hf, if_neg (fun z => hf (e.mpr z))]
  · exact ⟨-1, Rx_w (tX6_fits_o x1 x2 b8 b6 c4 c3 hx) (Rx_w (tX7_fits_o x1 x2 b9 b6 c5 c3 hx) ⟨st, n0, hJ⟩)⟩
theorem op_mostTurns (x1 : Int32) (hJ : JE C) : ∃ v : Int32, Ct G l yX6_mostTurns cX6_mostTurns 6 (some .int) 3 0 0 sz [.ref a, .int x1] (B G a C) (Rx G a v (fun C' => Ct G l yX7_mostTurns cX7_mostTurns 6 (some .int) 2 0 0 sz [.ref (a + 105), .int x1] (B G a C') (Rx G a v JE))) := by
  obtain ⟨st, n0, hJ⟩ := hJ
  obtain ⟨a1, a2, a3, a4, a5, -⟩ := id hJ
  obtain ⟨hd, tc, op, lc, b1, b2, b3, b4, b5, b6, b7, b8, b9, c1, c2, c3, c4, c5, c6, c7⟩ := stR_ex a5
  by_cases hx : isIx x1 lc
  · obtain ⟨n, hn, rfl⟩ := ix_ex hx
    obtain ⟨len, T, m1, m2, m3, m4, m5⟩ := c7 n hn
    obtain ⟨l1, l2, l3, l4, l5⟩ := lpR_ex m5
    refine ⟨_, Rx_w (tX6_mostTurns (lc := lc) (n := n) (len := len) c4 c3 hn l1 m2) (Rx_se ?_ (tX7_mostTurns (lc := lc) (n := n) (len := len) c5 c3 hn l2 m2) (fun D hD => JE_SC hD ⟨st, n0, hJ⟩))⟩
    exact mtF_congr len (fun k hk => ⟨(l5 k hk).1, (l5 k hk).2.1, (l5 k hk).2.2.1⟩)
  · exact ⟨-1, Rx_w (tX6_mostTurns_o x1 c4 c3 hx) (Rx_w (tX7_mostTurns_o x1 c5 c3 hx) ⟨st, n0, hJ⟩)⟩
theorem op_ifPlayed (x1 x2 x3 : Int32) (hJ : JE C) : ∃ v : Int32, Ct G l yX6_ifPlayed cX6_ifPlayed 4 (some .int) 5 0 0 sz [.ref a, .int x1, .int x2, .int x3] (B G a C) (Rx G a v (fun C' => Ct G l yX7_ifPlayed cX7_ifPlayed 7 (some .int) 4 0 0 sz [.ref (a + 105), .int x1, .int x2, .int x3] (B G a C') (Rx G a v JE))) := by
  obtain ⟨st, n0, hJ⟩ := hJ
  obtain ⟨a1, a2, a3, a4, a5, -⟩ := id hJ
  obtain ⟨hd, tc, op, lc, b1, b2, b3, b4, b5, b6, b7, b8, b9, c1, c2, c3, c4, c5, c6, c7⟩ := stR_ex a5
  by_cases hx : isIx x1 lc
  · obtain ⟨n, hn, rfl⟩ := ix_ex hx
    obtain ⟨len, T0, m1, m2, m3, m4, m5⟩ := c7 n hn
    obtain ⟨l1, l2, l3, l4, l5⟩ := lpR_ex m5
    by_cases hr : (1 ≤ x2 ∧ x2 ≤ 99) ∧ (0 ≤ x3 ∧ x3 ≤ 4)
    · obtain ⟨hr1, hr2⟩ := hr
      obtain ⟨T, hT, rfl⟩ := cl_ex (n := 99) (by decide) (⟨by have := hr1.1; rw [i_le] at this ⊢; have e1 : (1 : Int32).toInt = 1 := rfl; have e0 : (0 : Int32).toInt = 0 := rfl; omega, hr1.2⟩ : (0 : Int32) ≤ x2 ∧ x2 ≤ nI 99)
      have hT1 : 1 ≤ T := (cle (nlit (n := 1)) rfl (by decide) (by omega)).mp hr1.1
      obtain ⟨P, hP⟩ : ∃ P, P = plBody (shv C 10 12 n) (shn C 10 12 n) (sht C 10 12 n) len T 0 (rhF C, hd, 0, 0) := ⟨_, rfl⟩
      refine ⟨_, Rx_s (tX6_ifPlayed (lc := lc) (n := n) (len := len) (T := T) (hd := hd) (P := P) x3 c4 c3 hn l1 m2 ⟨hT1, hT⟩ hr2 b2 b1 hP) (fun D hD => ?_)⟩
      have e : ∀ j, j < 441 → D 106 j = C 106 j := hD.1
      have eP : plM (D 106) n len T (rhF C, hd, 0, 0) = P := by
        rw [hP]
        refine plBody_congr (fun k hk => ?_) _ _ _
        obtain ⟨k1, k2, k3, -⟩ := l5 k hk
        refine ⟨?_, ?_, ?_⟩
        · show lvM (D 106) n k = C 11 (n * 12 + k)
          rw [← k1]
          exact e _ (by omega)
        · show lnM (D 106) n k = C 12 (n * 12 + k)
          rw [← k2]
          exact e _ (by omega)
        · show lsM (D 106) n k = C 13 (n * 12 + k)
          rw [← k3]
          exact e _ (by omega)
      have m1' := tX7_ifPlayed (G := G) (l := l) (sz := sz) (a := a) (C := D) (lc := lc) (n := n) (len := len) (T := T) (hd := hd) (c := rhF C) x3 (by rw [e 33 (by decide)]; exact c5) c3 hn (by rw [e _ (by omega)]; exact l2) m2 m1 ⟨hT1, hT⟩ hr2 (fun j hj => by rw [e j (by omega), b4 j hj]; exact (cpy_full hj).symm) (by rw [e 30 (by decide)]; exact b3) b1 (fun k hk => by
        have := (l5 k hk).2.2.2
        rw [← (l5 k hk).1] at this
        have e2 : lvM (D 106) n k = lvM (C 106) n k := e _ (by omega)
        rw [e2]
        exact this)
      rw [eP] at m1'
      exact Rx_s m1' (fun D2 hD2 => JE_SC (hD.tr hD2) ⟨st, n0, hJ⟩)
    · exact ⟨-2, Rx_w (tX6_ifPlayed_r x2 x3 c4 c3 hn hr) (Rx_w (tX7_ifPlayed_r x2 x3 c5 c3 hn hr) ⟨st, n0, hJ⟩)⟩
  · exact ⟨-1, Rx_w (tX6_ifPlayed_o x1 x2 x3 c4 c3 hx) (Rx_w (tX7_ifPlayed_o x1 x2 x3 c5 c3 hx) ⟨st, n0, hJ⟩)⟩
theorem op_fewestTurns (x1 x2 x3 : Int32) (hJ : JE C) : ∃ v : Int32, Ct G l yX6_fewestTurns cX6_fewestTurns 6 (some .int) 4 0 0 sz [.ref a, .int x1, .int x2, .int x3] (B G a C) (Rx G a v (fun C' => Ct G l yX7_fewestTurns cX7_fewestTurns 7 (some .int) 2 0 0 sz [.ref (a + 105), .int x1, .int x2, .int x3] (B G a C') (Rx G a v JE))) := by
  obtain ⟨st, n0, hJ⟩ := hJ
  obtain ⟨a1, a2, a3, a4, a5, -⟩ := id hJ
  obtain ⟨hd, tc, op, lc, b1, b2, b3, b4, b5, b6, b7, b8, b9, c1, c2, c3, c4, c5, c6, c7⟩ := stR_ex a5
  by_cases hx : isIx x1 lc ∧ isIx x2 30
  · obtain ⟨hx1, hx2⟩ := hx
    obtain ⟨n, hn, rfl⟩ := ix_ex hx1
    obtain ⟨cl, hcl, rfl⟩ := ix_ex hx2
    obtain ⟨len, T0, m1, m2, m3, m4, m5⟩ := c7 n hn
    obtain ⟨l1, l2, l3, l4, l5⟩ := lpR_ex m5
    by_cases hr : 0 ≤ x3 ∧ x3 ≤ 99
    · refine ⟨_, Rx_s (tX6_fewestTurns (lc := lc) (n := n) (len := len) (cl := cl) (hd := hd) x3 c4 c3 hn l1 m2 hcl hr b2 b1) (fun D hD => ?_)⟩
      have e : ∀ j, j < 441 → D 106 j = C 106 j := hD.1
      have m1' := tX7_fewestTurns (G := G) (l := l) (sz := sz) (a := a) (C := D) (lc := lc) (n := n) (len := len) (cl := cl) (hd := hd) (c := rhF C) x3 (by rw [e 33 (by decide)]; exact c5) c3 hn (by rw [e _ (by omega)]; exact l2) m2 hcl hr (fun j hj => by rw [e j (by omega), b4 j hj]; exact (cpy_full hj).symm) (by rw [e 30 (by decide)]; exact b3) b1
      refine Rx_se (fewF_congr (fun k hk => ?_) _ _ _) m1' (fun D2 hD2 => JE_SC (hD.tr hD2) ⟨st, n0, hJ⟩)
      obtain ⟨k1, k2, k3, -⟩ := l5 k hk
      refine ⟨?_, ?_, ?_⟩
      · show lvM (D 106) n k = C 11 (n * 12 + k)
        rw [← k1]
        exact e _ (by omega)
      · show lnM (D 106) n k = C 12 (n * 12 + k)
        rw [← k2]
        exact e _ (by omega)
      · show lsM (D 106) n k = C 13 (n * 12 + k)
        rw [← k3]
        exact e _ (by omega)
    · exact ⟨-2, Rx_w (tX6_fewestTurns_r x3 c4 c3 hn hcl hr) (Rx_w (tX7_fewestTurns_r x3 c5 c3 hn hcl hr) ⟨st, n0, hJ⟩)⟩
  · exact ⟨-1, Rx_w (tX6_fewestTurns_o x1 x2 x3 c4 c3 hx) (Rx_w (tX7_fewestTurns_o x1 x2 x3 c5 c3 (fun z => hx ⟨z.1, isIx_30.mpr z.2⟩)) ⟨st, n0, hJ⟩)⟩
theorem op_alike (x1 x2 x3 : Int32) (hJ : JE C) : ∃ v : Int32, Ct G l yX6_alike cX6_alike 4 (some .int) 4 0 0 sz [.ref a, .int x1, .int x2, .int x3] (B G a C) (Rx G a v (fun C' => Ct G l yX7_alike cX7_alike 10 (some .int) 2 0 0 sz [.ref (a + 105), .int x1, .int x2, .int x3] (B G a C') (Rx G a v JE))) := by
  obtain ⟨st, n0, hJ⟩ := hJ
  obtain ⟨a1, a2, a3, a4, a5, -⟩ := id hJ
  obtain ⟨hd, tc, op, lc, b1, b2, b3, b4, b5, b6, b7, b8, b9, c1, c2, c3, c4, c5, c6, c7⟩ := stR_ex a5
  by_cases hx : isIx x1 tc ∧ isIx x2 tc
  · obtain ⟨hx1, hx2⟩ := hx
    obtain ⟨i, hi, rfl⟩ := ix_ex hx1
    obtain ⟨j, hj, rfl⟩ := ix_ex hx2
    obtain ⟨li, i1, i2, i3⟩ := c6 i (by omega)
    obtain ⟨lj, j1, j2, j3⟩ := c6 j (by omega)
    obtain ⟨ti1, ti2, ti3⟩ := trR_ex i3
    obtain ⟨tj1, tj2, tj3⟩ := trR_ex j3
    by_cases hr : 0 ≤ x3 ∧ x3 ≤ 1
    · refine ⟨_, Rx_s (tX6_alike (tc := tc) (i := i) (j := j) (li := li) (lj := lj) x3 b8 b6 hi hj hr ti1 tj1 i1 j1) (fun D hD => ?_)⟩
      have e : ∀ q, q < 441 → D 106 q = C 106 q := hD.1
      have m1' := tX7_alike (G := G) (l := l) (sz := sz) (a := a) (C := D) (tc := tc) (i := i) (j := j) (li := li) (lj := lj) x3 (by rw [e 31 (by decide)]; exact b9) b6 hi hj hr (by rw [e _ (by omega)]; exact ti2) (by rw [e _ (by omega)]; exact tj2) i1 j1
      refine Rx_se (lcsF_cg (lj := lj) (fun p q hp hq => ?_) lj (Nat.le_refl _)) m1' (fun D2 hD2 => JE_SC (hD.tr hD2) ⟨st, n0, hJ⟩)
      have ew : bI (x3 = 1) = 0 ↔ x3 = 0 := by
        obtain ⟨w, w1, rfl⟩ := cl_ex (n := 1) (by decide) hr
        rcases (show w = 0 ∨ w = 1 by omega) with z | z <;> subst z <;> decide
      unfold eqM eqC
      rw [decide_eq_decide, e _ (by omega), e _ (by omega), e _ (by omega), e _ (by omega), (ti3 p hp).1, (tj3 q hq).1, (ti3 p hp).2.1, (tj3 q hq).2.1, ew]
    · exact ⟨-2, Rx_w (tX6_alike_r x3 b8 b6 hi hj hr) (Rx_w (tX7_alike_r x3 b9 b6 hi hj hr) ⟨st, n0, hJ⟩)⟩
  · exact ⟨-1, Rx_w (tX6_alike_o x1 x2 x3 b8 b6 hx) (Rx_w (tX7_alike_o x1 x2 x3 b9 b6 hx) ⟨st, n0, hJ⟩)⟩
/-- the lengths of the tries -/
theorem tl_ex {C : CT} {z : Nat → Int32} {m : Nat} (h : ∀ i, i < m → ∃ n, n ≤ 12 ∧ (i < m → 1 ≤ n) ∧ trR (bk C 1) z i n) : ∃ tl : Nat → Nat, ∀ i, i < m → tl i ≤ 12 ∧ trR (bk C 1) z i (tl i) := by
  refine ⟨fun i => (C 8 i).toInt.toNat, fun i hi => ?_⟩
  obtain ⟨n, n1, -, n3⟩ := h i hi
  have e : (C 8 i).toInt.toNat = n := by rw [(trR_ex n3).1, nI_toInt (by omega)]; rfl
  show (C 8 i).toInt.toNat ≤ 12 ∧ trR (bk C 1) z i (C 8 i).toInt.toNat
  rw [e]
  exact ⟨n1, n3⟩
theorem op_bestPair (x1 : Int32) (hJ : JE C) : ∃ v : Int32, Ct G l yX6_bestPair cX6_bestPair 8 (some .int) 4 0 0 sz [.ref a, .int x1] (B G a C) (Rx G a v (fun C' => Ct G l yX7_bestPair cX7_bestPair 7 (some .int) 2 0 0 sz [.ref (a + 105), .int x1] (B G a C') (Rx G a v JE))) := by
  obtain ⟨st, n0, hJ⟩ := hJ
  obtain ⟨a1, a2, a3, a4, a5, -⟩ := id hJ
  obtain ⟨hd, tc, op, lc, b1, b2, b3, b4, b5, b6, b7, b8, b9, c1, c2, c3, c4, c5, c6, c7⟩ := stR_ex a5
  by_cases hr : 0 ≤ x1 ∧ x1 ≤ 1
  · obtain ⟨tl, htl⟩ := tl_ex (m := tc) (fun i hi => by obtain ⟨n, n1, n2, n3⟩ := c6 i (by omega); exact ⟨n, n1, fun _ => n2 hi, n3⟩)
    refine ⟨_, Rx_w (tX6_bestPair (tc := tc) (sl := tl) x1 hr b8 b6 (fun i hi => ⟨(trR_ex (htl i hi).2).1, (htl i hi).1⟩)) (Rx_we ?_ (tX7_bestPair (tc := tc) (tl := tl) x1 hr b9 b6 (fun i hi => ⟨(trR_ex (htl i hi).2).2.1, (htl i hi).1⟩)) ⟨st, n0, hJ⟩)⟩
    have rl : bpRl (bpC C tl tc) (bpM (C 106) tl tc) := by
      refine bpO_rl b6 (fun i j hij hj => ?_) tc 0 _ _ (by omega) (Or.inr ⟨rfl, rfl⟩)
      obtain ⟨i1, i2⟩ := htl i (by omega)
      obtain ⟨j1, j2⟩ := htl j hj
      refine ⟨?_, fun hl => ?_⟩
      · unfold lkG lkM
        rw [decide_eq_decide]
        exact lik_iff i2 j2
      · unfold lkG at hl
        have hl' := (of_decide_eq_true hl).1
        refine ⟨cntEq_cg (fun k hk => ⟨((trR_ex i2).2.2 k hk).2.1.symm, ((trR_ex j2).2.2 k (by omega)).2.1.symm⟩), ?_⟩
        obtain ⟨c, q1, q2⟩ := cntEq_nI (f := nT C i) (g := nT C j) (tl i)
        exact ⟨c, by omega, q2⟩
    by_cases h0 : x1 = 0
    · rw [if_pos h0, if_pos h0]
      rcases rl with ⟨e, -⟩ | ⟨e, e'⟩
      · rw [e]
      · rw [e, e']
    · rw [if_neg h0, if_neg h0]
      rcases rl with ⟨e, e'⟩ | ⟨e, e'⟩
      · rw [if_neg e', e]
      · rw [e, e', if_pos rfl]
  · exact ⟨-2, Rx_w (tX6_bestPair_o x1 hr) (Rx_w (tX7_bestPair_o x1 hr) ⟨st, n0, hJ⟩)⟩
theorem op_total (x1 : Int32) (hJ : JE C) : ∃ v : Int32, Ct G l yX6_total cX6_total 2 (some .int) 4 0 0 sz [.ref a, .int x1] (B G a C) (Rx G a v (fun C' => Ct G l yX7_total cX7_total 2 (some .int) 3 0 0 sz [.ref (a + 105), .int x1] (B G a C') (Rx G a v JE))) := by
  obtain ⟨st, n0, hJ⟩ := hJ
  obtain ⟨a1, a2, a3, a4, a5, a6, a7, g1, g2, g3, -⟩ := id hJ
  obtain ⟨hd, tc, op, lc, b1, b2, b3, b4, b5, b6, b7, b8, b9, c1, c2, c3, c4, c5, c6, c7⟩ := stR_ex a5
  by_cases hr : isIx x1 12
  · obtain ⟨w, hw, rfl⟩ := ix_ex hr
    obtain ⟨tl, htl⟩ := tl_ex (m := tc) (fun i hi => by obtain ⟨n, n1, n2, n3⟩ := c6 i (by omega); exact ⟨n, n1, fun _ => n2 hi, n3⟩)
    have op2 : C 1 0 = 1 ↔ op = 1 := by
      rw [c1]
      exact ceq rfl nlit (by omega) (by decide)
    refine ⟨_, Rx_w (tX6_total (tc := tc) (sl := tl) hw b8 b6 (fun i hi => ⟨(trR_ex (htl i hi).2).1, (htl i hi).1⟩) (stR_op a5) (fun z => by have := op2.mp z; omega)) (Rx_we ?_ (tX7_total (tc := tc) (tl := tl) hw b9 b6 (fun i hi => ⟨(trR_ex (htl i hi).2).2.1, (htl i hi).1⟩)) ⟨st, n0, hJ⟩)⟩
    unfold tM totC
    rcases (show w = 0 ∨ w = 1 ∨ w = 2 ∨ w = 3 ∨ w = 4 ∨ w = 5 ∨ w = 6 ∨ w = 7 ∨ w = 8 ∨ w = 9 ∨ w = 10 ∨ w = 11 by omega) with z | z | z | z | z | z | z | z | z | z | z | z <;> subst z
    · show C 106 30 = C 2 0
      rw [b3, b2]
    · show sumF (C 106) 30 = sumF (C 3) 30
      exact sumF_cg b4
    · show C 106 31 = C 4 0
      rw [b9, b8]
    · show (if C 106 32 = 1 then C 106 (38 + 25 * tc) else -5) = (if C 1 0 = 1 then C 8 tc else -5)
      rw [c2, c1]
      by_cases ho : nI op = 1
      · rw [if_pos ho, if_pos ho]
        have ho1 : op = 1 := by rw [← c1] at ho; exact op2.mp ho
        obtain ⟨n, n1, n2, n3⟩ := c6 tc (by omega)
        rw [(trR_ex n3).1, (trR_ex n3).2.1]
      · rw [if_neg ho, if_neg ho]
    · show C 106 33 = C 10 0
      rw [c5, c4]
    · exact b5 0 (by decide)
    · exact b5 1 (by decide)
    · exact b5 2 (by decide)
    · exact b5 3 (by decide)
    · show rowsN (lkM (C 106) tl) tc = rowsN (lkC C tl) tc
      refine rowsN_cg (fun i m hi hm => ?_)
      obtain ⟨i1, i2⟩ := htl i hi
      obtain ⟨m1, m2⟩ := htl m (by omega)
      unfold lkM lkC
      rw [decide_eq_decide]
      constructor
      · rintro ⟨q1, q2⟩
        refine ⟨q1.symm, fun k hk => ?_⟩
        have := q2 k (by omega)
        rw [((trR_ex i2).2.2 k (by omega)).1, ((trR_ex m2).2.2 k hk).1] at this
        exact this.symm
      · rintro ⟨q1, q2⟩
        refine ⟨q1.symm, fun k hk => ?_⟩
        rw [((trR_ex i2).2.2 k hk).1, ((trR_ex m2).2.2 k (by omega)).1]
        exact (q2 k (by omega)).symm
    · show C 105 0 = C 16 0
      rw [a4, a3]
    · show C 105 2 = C 93 0
      rw [g3, g2]
  · exact ⟨-2, Rx_w (tX6_total_o x1 hr) (Rx_w (tX7_total_o x1 hr) ⟨st, n0, hJ⟩)⟩
end CLS
