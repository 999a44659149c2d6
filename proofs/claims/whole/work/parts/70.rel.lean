/-! What the class's cells and the model's numbers have to do with each other. -/
abbrev Bk : Type := Nat → Nat → Int32
def RoR (b : Bk) (z : Nat → Int32) : Prop := (∃ hd, hd < 30 ∧ b 1 0 = nI hd ∧ z 30 = nI hd) ∧ (∀ j, j < 30 → z j = b 2 j) ∧ ∀ j, j < 4 → z (34 + j) = b 0 (1 + j)
def trR (b : Bk) (z : Nat → Int32) (i n : Nat) : Prop := b 7 i = nI n ∧ z (38 + 25 * i) = nI n ∧ ∀ k, k < n → z (38 + 25 * i + 1 + 2 * k) = b 4 (i * 12 + k) ∧ z (38 + 25 * i + 2 + 2 * k) = b 5 (i * 12 + k) ∧ verbOK (b 4 (i * 12 + k))
def TrsR (b : Bk) (z : Nat → Int32) (tc op : Nat) : Prop := tc ≤ 6 ∧ (op = 0 ∨ (op = 1 ∧ tc < 6)) ∧ b 3 0 = nI tc ∧ z 31 = nI tc ∧ b 0 0 = nI op ∧ z 32 = nI op ∧ ∀ i, i < tc + op → ∃ n, n ≤ 12 ∧ (i < tc → 1 ≤ n) ∧ trR b z i n
def lpR (b : Bk) (z : Nat → Int32) (i n t : Nat) : Prop := b 13 i = nI n ∧ z (213 + 38 * i) = nI n ∧ b 14 i = nI t ∧ z (214 + 38 * i) = nI t ∧ ∀ k, k < n → lvM z i k = b 10 (i * 12 + k) ∧ lnM z i k = b 11 (i * 12 + k) ∧ lsM z i k = b 12 (i * 12 + k) ∧ verbOK (b 10 (i * 12 + k))
def LpsR (b : Bk) (z : Nat → Int32) (lc : Nat) : Prop := lc ≤ 6 ∧ b 9 0 = nI lc ∧ z 33 = nI lc ∧ ∀ i, i < lc → ∃ n t, 1 ≤ n ∧ n ≤ 12 ∧ 1 ≤ t ∧ t ≤ 99 ∧ lpR b z i n t
def stB2 (b : Bk) (z : Nat → Int32) : Prop := RoR b z ∧ (∃ tc op, TrsR b z tc op) ∧ ∃ lc, LpsR b z lc
def bk (C : CT) (s : Nat) : Bk := fun i j => C (s + i) j
def stR (C : CT) (s : Nat) (z : Nat → Int32) : Prop := stB2 (bk C s) z
theorem RoR_cg {b b' : Bk} {z z' : Nat → Int32} (h1 : b' 1 0 = b 1 0) (h2 : ∀ j, j < 30 → b' 2 j = b 2 j) (h3 : ∀ j, 1 ≤ j → j < 5 → b' 0 j = b 0 j) (hz : ∀ j, j < 31 → z' j = z j) (hz2 : ∀ j, 34 ≤ j → j < 38 → z' j = z j) (h : RoR b z) : RoR b' z' := by
  obtain ⟨⟨hd, a1, a2, a3⟩, a4, a5⟩ := h
  refine ⟨⟨hd, a1, by rw [h1, a2], by rw [hz 30 (by decide), a3]⟩, fun j hj => ?_, fun j hj => ?_⟩
  · rw [hz j (by omega), h2 j hj, a4 j hj]
  · rw [hz2 _ (by omega) (by omega), h3 _ (by omega) (by omega), a5 j hj]
theorem trR_cg {b b' : Bk} {z z' : Nat → Int32} {i i' n : Nat} (hn : n ≤ 12) (h7 : b' 7 i' = b 7 i) (h4 : ∀ k, k < 12 → b' 4 (i' * 12 + k) = b 4 (i * 12 + k)) (h5 : ∀ k, k < 12 → b' 5 (i' * 12 + k) = b 5 (i * 12 + k)) (hz : ∀ j, j < 25 → z' (38 + 25 * i' + j) = z (38 + 25 * i + j)) (h : trR b z i n) : trR b' z' i' n := by
  obtain ⟨a1, a2, a3⟩ := h
  refine ⟨by rw [h7, a1], ?_, fun k hk => ?_⟩
  · have := hz 0 (by decide)
    rw [Nat.add_zero, Nat.add_zero] at this
    rw [this, a2]
  · obtain ⟨q1, q2, q3⟩ := a3 k hk
    refine ⟨?_, ?_, by rw [h4 k (by omega)]; exact q3⟩
    · rw [h4 k (by omega), ← q1, show 38 + 25 * i' + 1 + 2 * k = 38 + 25 * i' + (1 + 2 * k) by omega, hz _ (by omega), show 38 + 25 * i + (1 + 2 * k) = 38 + 25 * i + 1 + 2 * k by omega]
    · rw [h5 k (by omega), ← q2, show 38 + 25 * i' + 2 + 2 * k = 38 + 25 * i' + (2 + 2 * k) by omega, hz _ (by omega), show 38 + 25 * i + (2 + 2 * k) = 38 + 25 * i + 2 + 2 * k by omega]
theorem lpR_cg {b b' : Bk} {z z' : Nat → Int32} {i i' n t : Nat} (hn : n ≤ 12) (h13 : b' 13 i' = b 13 i) (h14 : b' 14 i' = b 14 i) (h10 : ∀ k, k < 12 → b' 10 (i' * 12 + k) = b 10 (i * 12 + k)) (h11 : ∀ k, k < 12 → b' 11 (i' * 12 + k) = b 11 (i * 12 + k)) (h12 : ∀ k, k < 12 → b' 12 (i' * 12 + k) = b 12 (i * 12 + k)) (hz : ∀ j, j < 38 → z' (213 + 38 * i' + j) = z (213 + 38 * i + j)) (h : lpR b z i n t) : lpR b' z' i' n t := by
  obtain ⟨a1, a2, a3, a4, a5⟩ := h
  refine ⟨by rw [h13, a1], ?_, by rw [h14, a3], ?_, fun k hk => ?_⟩
  · have := hz 0 (by decide)
    rw [Nat.add_zero, Nat.add_zero] at this
    rw [this, a2]
  · rw [← a4, show 214 + 38 * i' = 213 + 38 * i' + 1 by omega, hz 1 (by decide), show 213 + 38 * i + 1 = 214 + 38 * i by omega]
  · obtain ⟨q1, q2, q3, q4⟩ := a5 k hk
    refine ⟨?_, ?_, ?_, by rw [h10 k (by omega)]; exact q4⟩
    · rw [h10 k (by omega), ← q1]
      unfold lvM
      rw [show 213 + 38 * i' + 2 + 3 * k = 213 + 38 * i' + (2 + 3 * k) by omega, hz _ (by omega), show 213 + 38 * i + (2 + 3 * k) = 213 + 38 * i + 2 + 3 * k by omega]
    · rw [h11 k (by omega), ← q2]
      unfold lnM
      rw [show 213 + 38 * i' + 3 + 3 * k = 213 + 38 * i' + (3 + 3 * k) by omega, hz _ (by omega), show 213 + 38 * i + (3 + 3 * k) = 213 + 38 * i + 3 + 3 * k by omega]
    · rw [h12 k (by omega), ← q3]
      unfold lsM
      rw [show 213 + 38 * i' + 4 + 3 * k = 213 + 38 * i' + (4 + 3 * k) by omega, hz _ (by omega), show 213 + 38 * i + (4 + 3 * k) = 213 + 38 * i + 4 + 3 * k by omega]
theorem TrsR_cg {b b' : Bk} {z z' : Nat → Int32} {tc op : Nat} (h3 : b' 3 0 = b 3 0) (h0 : b' 0 0 = b 0 0) (h4 : ∀ j, j < 72 → b' 4 j = b 4 j) (h5 : ∀ j, j < 72 → b' 5 j = b 5 j) (h7 : ∀ j, j < 6 → b' 7 j = b 7 j) (hz : ∀ j, 31 ≤ j → j < 33 → z' j = z j) (hz2 : ∀ j, 38 ≤ j → j < 213 → z' j = z j) (h : TrsR b z tc op) : TrsR b' z' tc op := by
  obtain ⟨a1, a2, a3, a4, a5, a6, a7⟩ := h
  refine ⟨a1, a2, by rw [h3, a3], by rw [hz 31 (by decide) (by decide), a4], by rw [h0, a5], by rw [hz 32 (by decide) (by decide), a6], fun i hi => ?_⟩
  obtain ⟨n, n1, n2, n3⟩ := a7 i hi
  refine ⟨n, n1, n2, trR_cg n1 (h7 i (by omega)) (fun k hk => h4 _ (by omega)) (fun k hk => h5 _ (by omega)) (fun j hj => hz2 _ (by omega) (by omega)) n3⟩
theorem LpsR_cg {b b' : Bk} {z z' : Nat → Int32} {lc : Nat} (h9 : b' 9 0 = b 9 0) (h10 : ∀ j, j < 72 → b' 10 j = b 10 j) (h11 : ∀ j, j < 72 → b' 11 j = b 11 j) (h12 : ∀ j, j < 72 → b' 12 j = b 12 j) (h13 : ∀ j, j < 6 → b' 13 j = b 13 j) (h14 : ∀ j, j < 6 → b' 14 j = b 14 j) (hz : z' 33 = z 33) (hz2 : ∀ j, 213 ≤ j → j < 441 → z' j = z j) (h : LpsR b z lc) : LpsR b' z' lc := by
  obtain ⟨a1, a2, a3, a4⟩ := h
  refine ⟨a1, by rw [h9, a2], by rw [hz, a3], fun i hi => ?_⟩
  obtain ⟨n, t, n1, n2, n3, n4, n5⟩ := a4 i hi
  exact ⟨n, t, n1, n2, n3, n4, lpR_cg n2 (h13 i (by omega)) (h14 i (by omega)) (fun k hk => h10 _ (by omega)) (fun k hk => h11 _ (by omega)) (fun k hk => h12 _ (by omega)) (fun j hj => hz2 _ (by omega) (by omega)) n5⟩
theorem stR_ble {A C : CT} {s s' : Nat} {z z' : Nat → Int32} (h : BlE A s C s') (hz : ∀ j, j < 441 → z' j = z j) (hs : stR C s' z) : stR A s z' := by
  obtain ⟨h1, ⟨tc, op, h2⟩, lc, h3⟩ := hs
  refine ⟨RoR_cg (b := bk C s') (h 1 (by decide) 0 (by decide)) (fun j hj => h 2 (by decide) j hj) (fun j _ hj => h 0 (by decide) j hj) (fun j hj => hz j (by omega)) (fun j _ hj => hz j (by omega)) h1, ⟨tc, op, TrsR_cg (b := bk C s') (h 3 (by decide) 0 (by decide)) (h 0 (by decide) 0 (by decide)) (fun j hj => h 4 (by decide) j hj) (fun j hj => h 5 (by decide) j hj) (fun j hj => h 7 (by decide) j hj) (fun j _ hj => hz j (by omega)) (fun j _ hj => hz j (by omega)) h2⟩, lc, LpsR_cg (b := bk C s') (h 9 (by decide) 0 (by decide)) (fun j hj => h 10 (by decide) j hj) (fun j hj => h 11 (by decide) j hj) (fun j hj => h 12 (by decide) j hj) (fun j hj => h 13 (by decide) j hj) (fun j hj => h 14 (by decide) j hj) (hz 33 (by decide)) (fun j _ hj => hz j (by omega)) h3⟩
theorem stR_op {C : CT} {s : Nat} {z : Nat → Int32} (h : stR C s z) : C s 0 = 0 ∨ C s 0 = 1 := by
  obtain ⟨-, ⟨tc, op, -, h2, -, -, h5, -⟩, -⟩ := h
  have h5' : C s 0 = nI op := h5
  rcases h2 with h2 | ⟨h2, -⟩ <;> subst h2
  · exact Or.inl h5'
  · exact Or.inr h5'
def histR (C : CT) (st : Nat) : Prop := ∀ i, i < st → stR C (hB C i) (fun j => C 108 (441 * i + j))
def snapR (C : CT) : Prop := (C 0 0 = 0 ∧ C 105 1 = 0) ∨ (C 0 0 = 1 ∧ C 105 1 = 1 ∧ stR C 78 (C 109))
def txtR (C : CT) (n : Nat) : Prop := n ≤ 60 ∧ C 93 0 = nI n ∧ C 105 2 = nI n ∧ (∀ j, j < n → C 94 j = C 110 j) ∧ chOK C
/-- the invariant of the law's world -/
def JJ (C : CT) (st n : Nat) : Prop := st ≤ 4 ∧ HiK C ∧ C 16 0 = nI st ∧ C 105 0 = nI st ∧ stR C 1 (C 106) ∧ histR C st ∧ snapR C ∧ txtR C n
def EqJ (C D : CT) : Prop := (∀ i, i < 93 → D i = C i) ∧ D 94 = C 94 ∧ D 93 0 = C 93 0 ∧ (∀ j, j < 3 → D 105 j = C 105 j) ∧ (∀ j, j < 441 → D 106 j = C 106 j) ∧ D 108 = C 108 ∧ D 109 = C 109 ∧ D 110 = C 110
theorem BlE_of {A C : CT} {s : Nat} (h : ∀ i, i < 15 → A (s + i) = C (s + i)) : BlE A s C s := fun i hi j _ => by rw [h i hi]
theorem hB_lt {C : CT} (h : HiK C) {i : Nat} (hi : i < 4) : 18 ≤ hB C i ∧ hB C i + 15 ≤ 78 := by
  have := h.1 i hi
  unfold hB
  omega
theorem JJ_eq {C D : CT} {st n : Nat} (h : JJ C st n) (e : EqJ C D) : JJ D st n := by
  obtain ⟨a1, a2, a3, a4, a5, a6, a7, b1, b2, b3, b4, b5⟩ := h
  obtain ⟨e1, e2, e3, e4, e5, e6, e7, e8⟩ := e
  have hb : ∀ i, hB D i = hB C i := fun i => by unfold hB hK; rw [e1 17 (by decide)]
  refine ⟨a1, HiK_cg a2 (e1 17 (by decide)), by rw [e1 16 (by decide), a3], by rw [e4 0 (by decide), a4], stR_ble (BlE_of fun i hi => e1 _ (by omega)) e5 a5, fun i hi => ?_, ?_, b1, by rw [e3, b2], by rw [e4 2 (by decide), b3], fun j hj => by rw [e2, e8]; exact b4 j hj, fun j => by rw [e2]; exact b5 j⟩
  · have hl := hB_lt a2 (i := i) (by omega)
    rw [hb]
    refine stR_ble (BlE_of fun k hk => e1 _ (by omega)) (fun j _ => ?_) (a6 i hi)
    rw [e6]
  · rcases a7 with ⟨q1, q2⟩ | ⟨q1, q2, q3⟩
    · exact Or.inl ⟨by rw [e1 0 (by decide), q1], by rw [e4 1 (by decide), q2]⟩
    · refine Or.inr ⟨by rw [e1 0 (by decide), q1], by rw [e4 1 (by decide), q2], stR_ble (BlE_of fun k hk => e1 _ (by omega)) (fun j _ => by rw [e7]) q3⟩
theorem EqJ_SC {C D : CT} (h : SC C D) : EqJ C D := by
  obtain ⟨h1, h2, h3, h4⟩ := h
  have s : ∀ i, i < 93 → scr i = false := by
    intro i hi
    unfold scr
    simp
    omega
  exact ⟨fun i hi => h4 i (s i hi), h4 94 rfl, h3 0 (by decide), fun j hj => h2 j (by omega) (by omega), h1, h4 108 rfl, h4 109 rfl, h4 110 rfl⟩
theorem svP_last {z p : Nat → Int32} {st j : Nat} (hst : st ≤ 4) (hj : j < 441) : svP z p st (441 * (svN st - 1) + j) = z j := by
  unfold svP svN
  by_cases h : st = 4
  · rw [if_pos h, if_pos h]
    unfold va_cpy
    rw [if_pos (by omega)]
    exact congrArg z (by omega)
  · rw [if_neg h, if_neg h]
    unfold va_cpy
    rw [if_pos (by omega)]
    exact congrArg z (by omega)
theorem svP_old {z p : Nat → Int32} {st i j : Nat} (hst : st ≤ 4) (hi : i < svN st - 1) (hj : j < 441) : svP z p st (441 * i + j) = p (441 * (i + (if st = 4 then 1 else 0)) + j) := by
  unfold svN at hi
  unfold svP
  by_cases h : st = 4
  · rw [if_pos h] at hi
    rw [if_pos h, if_pos h]
    unfold va_cpy
    rw [if_neg (by omega), if_pos (by omega)]
    exact congrArg p (by omega)
  · rw [if_neg h] at hi
    rw [if_neg h, if_neg h]
    unfold va_cpy
    rw [if_neg (by omega)]
    rfl
theorem svN_le {st : Nat} (hst : st ≤ 4) : svN st ≤ 4 ∧ 1 ≤ svN st := by unfold svN; split <;> omega
/-- behind a push on both sides -/
theorem JJ_push {C C1 C' : CT} {z' : Nat → Int32} {st n : Nat} (hJ : JJ C st n) (hP : Pu C st C1) (h16 : ∀ i, 16 ≤ i → i < 95 → i ≠ 93 → C' i = C1 i) (h93 : C' 93 0 = C1 93 0) (h0 : C' 0 0 = C1 0 0) (hge : ∀ i, 105 ≤ i → C' i = C i) (hz : stR C' 1 z') : JJ (mset (mSave C' st) 106 z') (svN st) n := by
  obtain ⟨a1, a2, a3, a4, a5, a6, a7, b1, b2, b3, b4, b5⟩ := hJ
  obtain ⟨p1, p2, p3, p4, p5⟩ := hP
  have hs := svN_le a1
  have lo : ∀ i, i < 105 → mset (mSave C' st) 106 z' i = C' i := fun i hi => by unfold mSave; rw [mset_n (by omega), mset_n (by omega), mset_n (by omega)]
  have o105 : mset (mSave C' st) 106 z' 105 = upd (C 105) 0 (nI (svN st)) := by unfold mSave; rw [mset_n (by decide), mset_s, hge 105 (by decide)]
  have o108 : mset (mSave C' st) 106 z' 108 = svP (C 106) (C 108) st := by unfold mSave; rw [mset_n (by decide), mset_n (by decide), mset_s, hge 106 (by decide), hge 108 (by decide)]
  have o109 : mset (mSave C' st) 106 z' 109 = C 109 := by unfold mSave; rw [mset_n (by decide), mset_n (by decide), mset_n (by decide), hge 109 (by decide)]
  have o110 : mset (mSave C' st) 106 z' 110 = C 110 := by unfold mSave; rw [mset_n (by decide), mset_n (by decide), mset_n (by decide), hge 110 (by decide)]
  have o106 : mset (mSave C' st) 106 z' 106 = z' := mset_s
  generalize mset (mSave C' st) 106 z' = D at lo o105 o108 o109 o110 o106
  have e17 : D 17 = C1 17 := by rw [lo 17 (by decide), h16 17 (by decide) (by decide) (by decide)]
  have hb : ∀ i, hB D i = hB C1 i := fun i => by unfold hB hK; rw [e17]
  have hin : ∀ i, i < 4 → ∀ k, k < 15 → D (hB C1 i + k) = C1 (hB C1 i + k) := fun i hi k hk => by
    have := hB_lt p3 hi
    rw [lo _ (by omega), h16 _ (by omega) (by omega) (by omega)]
  refine ⟨hs.1, HiK_cg p3 e17, by rw [lo 16 (by decide), h16 16 (by decide) (by decide) (by decide), p2], by rw [o105, pk_us], ?_, fun i hi => ?_, ?_, b1, by rw [lo 93 (by decide), h93, p1 93 (by decide), b2], by rw [o105, pk_un (by decide), b3], fun j hj => ?_, fun j => ?_⟩
  · rw [o106]
    exact stR_ble (BlE_of fun i hi => lo _ (by omega)) (fun j _ => rfl) hz
  · rw [hb, o108]
    by_cases hl : i = svN st - 1
    · subst hl
      have e1 : BlE D (hB C1 (svN st - 1)) C 1 := fun k hk j hj => by rw [hin _ (by omega) k hk]; exact p4 k hk j hj
      exact stR_ble e1 (fun j hj => svP_last a1 hj) a5
    · have hi2 : i < svN st - 1 := by omega
      have e1 : BlE D (hB C1 i) C (hB C (i + (if st = 4 then 1 else 0))) := fun k hk j hj => by rw [hin _ (by omega) k hk]; exact p5 i hi2 k hk j hj
      exact stR_ble e1 (fun j hj => svP_old a1 hi2 hj) (a6 _ (by unfold svN at hi2; split at hi2 <;> split <;> omega))
  · have e0 : D 0 0 = C 0 0 := by rw [lo 0 (by decide), h0, p1 0 (by decide)]
    have e1 : D 105 1 = C 105 1 := by rw [o105, pk_un (by decide)]
    rcases a7 with ⟨q1, q2⟩ | ⟨q1, q2, q3⟩
    · exact Or.inl ⟨by rw [e0, q1], by rw [e1, q2]⟩
    · refine Or.inr ⟨by rw [e0, q1], by rw [e1, q2], stR_ble (BlE_of fun k hk => ?_) (fun j _ => by rw [o109]) q3⟩
      rw [lo _ (by omega), h16 _ (by omega) (by omega) (by omega), p1 _ (by omega)]
  · rw [lo 94 (by decide), h16 94 (by decide) (by decide) (by decide), p1 94 (by decide), o110]
    exact b4 j hj
  · rw [lo 94 (by decide), h16 94 (by decide) (by decide) (by decide), p1 94 (by decide)]
    exact b5 j
