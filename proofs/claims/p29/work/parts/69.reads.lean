/-! The class's reads and refusals in a world alike to C but for scratch: answers as words of C. -/
theorem fD {C D : CT} {hd tc op lc : Nat} {tl ll lt : Nat → Nat} (hI : Inv (bk C 1) hd tc op lc tl ll lt) (hD : SC C D) : D 4 0 = nI tc ∧ tc ≤ 6 ∧ (D 1 0 = 0 ∨ D 1 0 = 1) ∧ (D 1 0 = 1 ↔ op = 1) ∧ (op = 1 → tc < 6) ∧ D 10 0 = nI lc ∧ lc ≤ 6 ∧ D 2 0 = nI hd ∧ hd < 30 ∧ (∀ i, i < tc + op → D 8 i = nI (tl i) ∧ tl i ≤ 12) ∧ (∀ i, i < lc → D 14 i = nI (ll i) ∧ 1 ≤ ll i ∧ ll i ≤ 12 ∧ D 15 i = nI (lt i) ∧ 1 ≤ lt i ∧ lt i ≤ 99) := by
  obtain ⟨⟨i1, i2, i3⟩, ⟨t1, t2, t3, t4, t5, t6⟩, l1, l2, l3⟩ := Inv_SC hD hI
  have t3' : D 1 0 = nI op := t3
  refine ⟨t1, t2, ?_, ?_, fun z => by omega, l1, l2, i1, i2, fun i hi => ⟨(t5 i hi).1, (t5 i hi).2.1⟩, fun i hi => ⟨(l3 i hi).1, (l3 i hi).2.1, (l3 i hi).2.2.1, (l3 i hi).2.2.2.1, (l3 i hi).2.2.2.2.1, (l3 i hi).2.2.2.2.2.1⟩⟩
  · rcases t4 with t4 | ⟨t4, -⟩ <;> subst t4
    · exact Or.inl t3'
    · exact Or.inr t3'
  · rw [t3']
    exact ceq rfl nlit (by omega) (by decide)
/-- the answer of ofTry -/
def oTF (C : CT) (n : Nat) (tl : Nat → Nat) (x1 x2 x3 : Int32) : Int32 := if isIx x1 n then (if ¬ isIx x2 (tl x1.toInt.toNat) then -1 else if x3 = 0 then C 5 (x1.toInt.toNat * 12 + x2.toInt.toNat) else if x3 = 1 then C 6 (x1.toInt.toNat * 12 + x2.toInt.toNat) else -2) else -1
/-- the answer of ofLoop -/
def oLF (C : CT) (lc : Nat) (ll : Nat → Nat) (x1 x2 x3 : Int32) : Int32 := if isIx x1 lc then (if isIx x2 (ll x1.toInt.toNat) then (if x3 = 0 then C 11 (x1.toInt.toNat * 12 + x2.toInt.toNat) else if x3 = 1 then C 12 (x1.toInt.toNat * 12 + x2.toInt.toNat) else if x3 = 2 then C 13 (x1.toInt.toNat * 12 + x2.toInt.toNat) + 1000 else if x3 = 3 then C 12 (x1.toInt.toNat * 12 + x2.toInt.toNat) + (C 15 x1.toInt.toNat - 1) * C 13 (x1.toInt.toNat * 12 + x2.toInt.toNat) + 10000 else -2) else -1) else -1
/-- the answer of length -/
def leF (C : CT) (tc lc : Nat) (x1 x2 : Int32) : Int32 := if x2 = 0 then (if isIx x1 tc then C 8 x1.toInt.toNat else -1) else if x2 = 1 then (if isIx x1 lc then C 14 x1.toInt.toNat else -1) else if x2 = 2 then (if isIx x1 lc then C 15 x1.toInt.toNat else -1) else -2
/-- a play of loop n -/
def pB (C : CT) (hd n len T : Nat) : PS × Int32 := plBody (shv C 10 12 n) (shn C 10 12 n) (sht C 10 12 n) len T 0 (C 3, hd, 0, 0)
def pV (P : PS × Int32) (x3 : Int32) : Int32 := if x3 = 0 then P.1.2.2.1 else if x3 = 1 then P.2 else if x3 = 2 then sumF P.1.1 30 else if x3 = 3 then nI P.1.2.1 else P.1.2.2.2
def bpA (C : CT) (tl : Nat → Nat) (tc : Nat) (x1 : Int32) : Int32 := if x1 = 0 then (bpC C tl tc).1 else if (bpC C tl tc).1 = -5 then (bpC C tl tc).1 else (bpC C tl tc).2
theorem eqC_SC {C D : CT} (hD : SC C D) {i j : Nat} {w : Int32} : eqC D i j w = eqC C i j w := by
  funext p q
  unfold eqC
  show decide (D 5 _ = D 5 _ ∧ (w = 0 ∨ D 6 _ = D 6 _)) = decide (C 5 _ = C 5 _ ∧ (w = 0 ∨ C 6 _ = C 6 _))
  rw [hD.lo (i := 5) (by decide), hD.lo (i := 6) (by decide)]
section QRY
variable {G : GT} {l : Launch} {sz a st hd tc op lc : Nat} {tl ll lt : Nat → Nat} {C D : CT}
theorem q_cell (x1 : Int32) (hD : SC C D) : Ct G l yX6_cell cX6_cell 2 (some .int) 1 0 0 sz [.ref a, .int x1] (B G a D) (Rq G a C (if isIx x1 30 then C 3 x1.toInt.toNat else -1)) :=
  rq_w (by rw [hD.lo (i := 3) (by decide)]) hD (tX6_cell x1)
theorem q_total {w : Nat} (hw : w < 12) (hI : Inv (bk C 1) hd tc op lc tl ll lt) (hD : SC C D) : Ct G l yX6_total cX6_total 2 (some .int) 4 0 0 sz [.ref a, .int (nI w)] (B G a D) (Rq G a C (totC C tl tc w)) := by
  obtain ⟨d1, d2, d3, d4, d5, d6, d7, d8, d9, d10, d11⟩ := fD hI hD
  refine rq_w ?_ hD (tX6_total (sl := tl) hw d1 d2 (fun i hi => d10 i (by omega)) d3 (fun z => d5 (d4.mp z)))
  unfold totC lkC
  rw [hD.lo (i := 1) (by decide), hD.lo (i := 2) (by decide), hD.lo (i := 3) (by decide), hD.lo (i := 4) (by decide), hD.lo (i := 5) (by decide), hD.lo (i := 8) (by decide), hD.lo (i := 10) (by decide), hD.lo (i := 16) (by decide), hD.1]
theorem q_total_r (x1 : Int32) (hx : ¬ isIx x1 12) (hD : SC C D) : Ct G l yX6_total cX6_total 2 (some .int) 4 0 0 sz [.ref a, .int x1] (B G a D) (Rq G a C (-2)) := rq_w rfl hD (tX6_total_o x1 hx)
theorem q_ofTry (x1 x2 x3 : Int32) (hI : Inv (bk C 1) hd tc op lc tl ll lt) (hD : SC C D) : Ct G l yX6_ofTry cX6_ofTry 5 (some .int) 2 0 0 sz [.ref a, .int x1, .int x2, .int x3] (B G a D) (Rq G a C (oTF C (tc + op) tl x1 x2 x3)) := by
  obtain ⟨d1, d2, d3, d4, d5, d6, d7, d8, d9, d10, d11⟩ := fD hI hD
  have hop : op = 0 ∨ (op = 1 ∧ tc < 6) := hI.2.1.2.2.2.1
  unfold oTF
  by_cases hx : isIx x1 (tc + op)
  · obtain ⟨n, hn, rfl⟩ := ix_ex hx
    have e : (nI n).toInt.toNat = n := by rw [nI_toInt (by omega)]; rfl
    rw [if_pos hx, e]
    refine rq_w ?_ hD (tX6_ofTry (tc := tc) (n := n) (len := tl n) x2 x3 d1 d2 d3 (fun z => d5 (d4.mp z)) ?_ (d10 n hn).1 (d10 n hn).2)
    · rw [hD.lo (i := 5) (by decide), hD.lo (i := 6) (by decide)]
    · by_cases h : n < tc
      · exact Or.inl h
      · exact Or.inr ⟨d4.mpr (by omega), by omega⟩
  · rw [if_neg hx]
    refine rq_w rfl hD (tX6_ofTry_o (tc := tc) x1 x2 x3 d1 d2 d3 ?_)
    rintro (z | ⟨z1, z2⟩)
    · exact hx ⟨z.1, by have := z.2; omega⟩
    · have := d4.mp z1
      subst z2
      exact hx (isIx_nI (by omega) (by omega))
theorem q_ofLoop (x1 x2 x3 : Int32) (hI : Inv (bk C 1) hd tc op lc tl ll lt) (hD : SC C D) : Ct G l yX6_ofLoop cX6_ofLoop 5 (some .int) 3 0 0 sz [.ref a, .int x1, .int x2, .int x3] (B G a D) (Rq G a C (oLF C lc ll x1 x2 x3)) := by
  obtain ⟨d1, d2, d3, d4, d5, d6, d7, d8, d9, d10, d11⟩ := fD hI hD
  unfold oLF
  by_cases hx : isIx x1 lc
  · obtain ⟨n, hn, rfl⟩ := ix_ex hx
    have e : (nI n).toInt.toNat = n := by rw [nI_toInt (by omega)]; rfl
    obtain ⟨l1, l2, l3, -⟩ := d11 n hn
    rw [if_pos hx, e]
    by_cases hk : isIx x2 (ll n)
    · obtain ⟨k, hk2, rfl⟩ := ix_ex hk
      have e2 : (nI k).toInt.toNat = k := by rw [nI_toInt (by omega)]; rfl
      rw [if_pos hk, e2]
      refine rq_w ?_ hD (tX6_ofLoop (lc := lc) (n := n) (len := ll n) (k := k) x3 d6 d7 hn l1 l3 hk2)
      rw [hD.lo (i := 11) (by decide), hD.lo (i := 12) (by decide), hD.lo (i := 13) (by decide), hD.lo (i := 15) (by decide)]
    · rw [if_neg hk]
      exact rq_w rfl hD (tX6_ofLoop_s (lc := lc) (n := n) (len := ll n) x2 x3 d6 d7 hn l1 l3 hk)
  · rw [if_neg hx]
    exact rq_w rfl hD (tX6_ofLoop_o x1 x2 x3 d6 d7 hx)
theorem q_length (x1 x2 : Int32) (hI : Inv (bk C 1) hd tc op lc tl ll lt) (hD : SC C D) : Ct G l yX6_length cX6_length 3 (some .int) 1 0 0 sz [.ref a, .int x1, .int x2] (B G a D) (Rq G a C (leF C tc lc x1 x2)) := by
  obtain ⟨d1, d2, d3, d4, d5, d6, d7, d8, d9, d10, d11⟩ := fD hI hD
  refine rq_w ?_ hD (tX6_length x1 x2 d1 d2 d6 d7)
  unfold leF
  rw [hD.lo (i := 8) (by decide), hD.lo (i := 14) (by decide), hD.lo (i := 15) (by decide)]
theorem q_alike {i j : Nat} (w : Int32) (hw : w = 0 ∨ w = 1) (hi : i < tc) (hj : j < tc) (hI : Inv (bk C 1) hd tc op lc tl ll lt) (hD : SC C D) : Ct G l yX6_alike cX6_alike 4 (some .int) 4 0 0 sz [.ref a, .int (nI i), .int (nI j), .int w] (B G a D) (Rq G a C (nI (lcN (eqC C i j w) (tl i) (tl j)))) := by
  obtain ⟨d1, d2, d3, d4, d5, d6, d7, d8, d9, d10, d11⟩ := fD hI hD
  obtain ⟨i1, i2⟩ := d10 i (by omega)
  obtain ⟨j1, j2⟩ := d10 j (by omega)
  have e : bI (w = 1) = w := by rcases hw with z | z <;> subst z <;> decide
  refine rq_s ?_ hD (tX6_alike (tc := tc) (i := i) (j := j) (li := tl i) (lj := tl j) w d1 d2 hi hj (by rcases hw with z | z <;> subst z <;> decide) i1 j1 i2 j2)
  rw [e, eqC_SC hD]
  exact lcF_nI _ i2 _ j2
theorem q_alike_o (x1 x2 x3 : Int32) (hx : ¬ (isIx x1 tc ∧ isIx x2 tc)) (hI : Inv (bk C 1) hd tc op lc tl ll lt) (hD : SC C D) : Ct G l yX6_alike cX6_alike 4 (some .int) 4 0 0 sz [.ref a, .int x1, .int x2, .int x3] (B G a D) (Rq G a C (-1)) := by
  obtain ⟨d1, d2, -⟩ := fD hI hD
  exact rq_w rfl hD (tX6_alike_o x1 x2 x3 d1 d2 hx)
theorem q_alike_r {i j : Nat} (x3 : Int32) (hi : i < tc) (hj : j < tc) (hx : ¬ (0 ≤ x3 ∧ x3 ≤ 1)) (hI : Inv (bk C 1) hd tc op lc tl ll lt) (hD : SC C D) : Ct G l yX6_alike cX6_alike 4 (some .int) 4 0 0 sz [.ref a, .int (nI i), .int (nI j), .int x3] (B G a D) (Rq G a C (-2)) := by
  obtain ⟨d1, d2, -⟩ := fD hI hD
  exact rq_w rfl hD (tX6_alike_r x3 d1 d2 hi hj hx)
theorem q_bestPair (x1 : Int32) (hx : 0 ≤ x1 ∧ x1 ≤ 1) (hI : Inv (bk C 1) hd tc op lc tl ll lt) (hD : SC C D) : Ct G l yX6_bestPair cX6_bestPair 8 (some .int) 4 0 0 sz [.ref a, .int x1] (B G a D) (Rq G a C (bpA C tl tc x1)) := by
  obtain ⟨d1, d2, d3, d4, d5, d6, d7, d8, d9, d10, d11⟩ := fD hI hD
  refine rq_w ?_ hD (tX6_bestPair (sl := tl) x1 hx d1 d2 (fun i hi => d10 i (by omega)))
  have e : bpC D tl tc = bpC C tl tc := by
    unfold bpC
    have e1 : lkG D tl = lkG C tl := by
      funext i j
      unfold lkG
      show decide (_ ∧ ∀ k, k < _ → D 5 _ = D 5 _) = decide (_ ∧ ∀ k, k < _ → C 5 _ = C 5 _)
      rw [hD.lo (i := 5) (by decide)]
    have e2 : cnC D tl = cnC C tl := by
      funext i j
      unfold cnC
      show cntEq (fun k => D 6 (i * 12 + k)) (fun k => D 6 (j * 12 + k)) _ = cntEq (fun k => C 6 (i * 12 + k)) (fun k => C 6 (j * 12 + k)) _
      rw [hD.lo (i := 6) (by decide)]
    rw [e1, e2]
  unfold bpA
  rw [e]
theorem q_bestPair_o (x1 : Int32) (hx : ¬ (0 ≤ x1 ∧ x1 ≤ 1)) (hD : SC C D) : Ct G l yX6_bestPair cX6_bestPair 8 (some .int) 4 0 0 sz [.ref a, .int x1] (B G a D) (Rq G a C (-2)) := rq_w rfl hD (tX6_bestPair_o x1 hx)
theorem q_fits {n i : Nat} (hn : n < lc) (hi : i < tc) (hI : Inv (bk C 1) hd tc op lc tl ll lt) (hD : SC C D) : Ct G l yX6_fits cX6_fits 7 (some .int) 4 0 0 sz [.ref a, .int (nI n), .int (nI i)] (B G a D) (Rq G a C (if fitC C n (ll n) i (tl i) then nI (tl i / ll n) else -5)) := by
  obtain ⟨d1, d2, d3, d4, d5, d6, d7, d8, d9, d10, d11⟩ := fD hI hD
  obtain ⟨l1, l2, l3, -⟩ := d11 n hn
  refine rq_w ?_ hD (tX6_fits (tc := tc) (lc := lc) (n := n) (len := ll n) (i := i) (li := tl i) d1 d2 d6 d7 hn hi l1 l3 l2 (d10 i (by omega)).1 (d10 i (by omega)).2)
  unfold fitC
  rw [hD.lo (i := 5) (by decide), hD.lo (i := 6) (by decide), hD.lo (i := 11) (by decide), hD.lo (i := 12) (by decide), hD.lo (i := 13) (by decide)]
theorem q_fits_o (x1 x2 : Int32) (hx : ¬ (isIx x1 lc ∧ isIx x2 tc)) (hI : Inv (bk C 1) hd tc op lc tl ll lt) (hD : SC C D) : Ct G l yX6_fits cX6_fits 7 (some .int) 4 0 0 sz [.ref a, .int x1, .int x2] (B G a D) (Rq G a C (-1)) := by
  obtain ⟨d1, d2, d3, d4, d5, d6, d7, d8, d9, d10, d11⟩ := fD hI hD
  exact rq_w rfl hD (tX6_fits_o x1 x2 d1 d2 d6 d7 hx)
theorem q_mostTurns {n : Nat} (hn : n < lc) (hI : Inv (bk C 1) hd tc op lc tl ll lt) (hD : SC C D) : Ct G l yX6_mostTurns cX6_mostTurns 6 (some .int) 3 0 0 sz [.ref a, .int (nI n)] (B G a D) (Rq G a C (mtF (lvC C n) (lnC C n) (lsC C n) (ll n))) := by
  obtain ⟨d1, d2, d3, d4, d5, d6, d7, d8, d9, d10, d11⟩ := fD hI hD
  obtain ⟨l1, l2, l3, -⟩ := d11 n hn
  refine rq_w ?_ hD (tX6_mostTurns (lc := lc) (n := n) (len := ll n) d6 d7 hn l1 l3)
  show mtF (fun k => D 11 (n * 12 + k)) (fun k => D 12 (n * 12 + k)) (fun k => D 13 (n * 12 + k)) _ = mtF (fun k => C 11 (n * 12 + k)) (fun k => C 12 (n * 12 + k)) (fun k => C 13 (n * 12 + k)) _
  rw [hD.lo (i := 11) (by decide), hD.lo (i := 12) (by decide), hD.lo (i := 13) (by decide)]
theorem q_mostTurns_o (x1 : Int32) (hx : ¬ isIx x1 lc) (hI : Inv (bk C 1) hd tc op lc tl ll lt) (hD : SC C D) : Ct G l yX6_mostTurns cX6_mostTurns 6 (some .int) 3 0 0 sz [.ref a, .int x1] (B G a D) (Rq G a C (-1)) := by
  obtain ⟨d1, d2, d3, d4, d5, d6, d7, d8, d9, d10, d11⟩ := fD hI hD
  exact rq_w rfl hD (tX6_mostTurns_o x1 d6 d7 hx)
theorem pB_SC {n len T : Nat} (hD : SC C D) : pB D hd n len T = pB C hd n len T := by
  unfold pB
  show plBody (fun k => D 11 (n * 12 + k)) (fun k => D 12 (n * 12 + k)) (fun k => D 13 (n * 12 + k)) _ _ _ _ = plBody (fun k => C 11 (n * 12 + k)) (fun k => C 12 (n * 12 + k)) (fun k => C 13 (n * 12 + k)) _ _ _ _
  rw [hD.lo (i := 11) (by decide), hD.lo (i := 12) (by decide), hD.lo (i := 13) (by decide), hD.lo (i := 3) (by decide)]
theorem q_ifPlayed {n T : Nat} (x3 : Int32) (hn : n < lc) (hT : 1 ≤ T ∧ T ≤ 99) (hx : 0 ≤ x3 ∧ x3 ≤ 4) (hI : Inv (bk C 1) hd tc op lc tl ll lt) (hD : SC C D) : Ct G l yX6_ifPlayed cX6_ifPlayed 4 (some .int) 5 0 0 sz [.ref a, .int (nI n), .int (nI T), .int x3] (B G a D) (Rq G a C (pV (pB C hd n (ll n) T) x3)) := by
  obtain ⟨d1, d2, d3, d4, d5, d6, d7, d8, d9, d10, d11⟩ := fD hI hD
  obtain ⟨l1, l2, l3, -⟩ := d11 n hn
  refine rq_s ?_ hD (tX6_ifPlayed (lc := lc) (n := n) (len := ll n) (T := T) (hd := hd) x3 d6 d7 hn l1 l3 hT hx d8 d9 rfl)
  obtain ⟨⟨e1, e2⟩, e3⟩ := plBody_PE (bv := shv D 10 12 n) (bn := shn D 10 12 n) (bs := sht D 10 12 n) (size := ll n) T 0 (D 3, hd, 0, 0) (rhF D, hd, 0, 0) d9 ⟨fun j hj => cpy_full hj, rfl⟩
  have es : sumF (plBody (shv D 10 12 n) (shn D 10 12 n) (sht D 10 12 n) (ll n) T 0 (rhF D, hd, 0, 0)).1.1 30 = sumF (plBody (shv D 10 12 n) (shn D 10 12 n) (sht D 10 12 n) (ll n) T 0 (D 3, hd, 0, 0)).1.1 30 := sumF_cg e1
  rw [← pB_SC hD]
  unfold pV pB
  rw [e2, e3, es]
theorem q_ifPlayed_o (x1 x2 x3 : Int32) (hx : ¬ isIx x1 lc) (hI : Inv (bk C 1) hd tc op lc tl ll lt) (hD : SC C D) : Ct G l yX6_ifPlayed cX6_ifPlayed 4 (some .int) 5 0 0 sz [.ref a, .int x1, .int x2, .int x3] (B G a D) (Rq G a C (-1)) := by
  obtain ⟨d1, d2, d3, d4, d5, d6, d7, d8, d9, d10, d11⟩ := fD hI hD
  exact rq_w rfl hD (tX6_ifPlayed_o x1 x2 x3 d6 d7 hx)
theorem q_ifPlayed_r {n : Nat} (x2 x3 : Int32) (hn : n < lc) (hx : ¬ ((1 ≤ x2 ∧ x2 ≤ 99) ∧ (0 ≤ x3 ∧ x3 ≤ 4))) (hI : Inv (bk C 1) hd tc op lc tl ll lt) (hD : SC C D) : Ct G l yX6_ifPlayed cX6_ifPlayed 4 (some .int) 5 0 0 sz [.ref a, .int (nI n), .int x2, .int x3] (B G a D) (Rq G a C (-2)) := by
  obtain ⟨d1, d2, d3, d4, d5, d6, d7, d8, d9, d10, d11⟩ := fD hI hD
  exact rq_w rfl hD (tX6_ifPlayed_r x2 x3 d6 d7 hn hx)
theorem q_fewestTurns_o (x1 x2 x3 : Int32) (hx : ¬ (isIx x1 lc ∧ isIx x2 30)) (hI : Inv (bk C 1) hd tc op lc tl ll lt) (hD : SC C D) : Ct G l yX6_fewestTurns cX6_fewestTurns 6 (some .int) 4 0 0 sz [.ref a, .int x1, .int x2, .int x3] (B G a D) (Rq G a C (-1)) := by
  obtain ⟨d1, d2, d3, d4, d5, d6, d7, d8, d9, d10, d11⟩ := fD hI hD
  exact rq_w rfl hD (tX6_fewestTurns_o x1 x2 x3 d6 d7 hx)
theorem q_fewestTurns_r {n cl : Nat} (x3 : Int32) (hn : n < lc) (hcl : cl < 30) (hx : ¬ (0 ≤ x3 ∧ x3 ≤ 99)) (hI : Inv (bk C 1) hd tc op lc tl ll lt) (hD : SC C D) : Ct G l yX6_fewestTurns cX6_fewestTurns 6 (some .int) 4 0 0 sz [.ref a, .int (nI n), .int (nI cl), .int x3] (B G a D) (Rq G a C (-2)) := by
  obtain ⟨d1, d2, d3, d4, d5, d6, d7, d8, d9, d10, d11⟩ := fD hI hD
  exact rq_w rfl hD (tX6_fewestTurns_r x3 d6 d7 hn hcl hx)
/-! refusals -/
theorem q_step_v (x1 x2 : Int32) (hx : ¬ (0 ≤ x1 ∧ x1 ≤ 5)) (hD : SC C D) : Ct G l yX6_step cX6_step 4 (some .int) 5 0 0 sz [.ref a, .int x1, .int x2] (B G a D) (Rq G a C (-1)) := rq_w rfl hD (tX6_step_v x1 x2 hx)
theorem q_step_r (x1 x2 : Int32) (hv : 0 ≤ x1 ∧ x1 ≤ 5) (hx : ¬ inR x1 x2) (hD : SC C D) : Ct G l yX6_step cX6_step 4 (some .int) 5 0 0 sz [.ref a, .int x1, .int x2] (B G a D) (Rq G a C (-2)) := rq_w rfl hD (tX6_step_r x1 x2 hv hx)
theorem q_step_f (x1 x2 : Int32) (hv : 0 ≤ x1 ∧ x1 ≤ 5) (hx : inR x1 x2) (ho : op = 1) (hl : tl tc = 12) (hI : Inv (bk C 1) hd tc op lc tl ll lt) (hD : SC C D) : Ct G l yX6_step cX6_step 4 (some .int) 5 0 0 sz [.ref a, .int x1, .int x2] (B G a D) (Rq G a C (-3)) := by
  obtain ⟨d1, d2, d3, d4, d5, d6, d7, d8, d9, d10, d11⟩ := fD hI hD
  exact rq_w rfl hD (tX6_step_f (tc := tc) (len := 12) x1 x2 hv hx (d4.mpr ho) d1 (d5 ho) (by rw [(d10 tc (by omega)).1, hl]) (by decide) (by decide))
theorem q_record_o (ho : op = 1) (hI : Inv (bk C 1) hd tc op lc tl ll lt) (hD : SC C D) : Ct G l yX6_record cX6_record 1 (some .int) 5 0 0 sz [.ref a] (B G a D) (Rq G a C (-4)) := by
  obtain ⟨d1, d2, d3, d4, -⟩ := fD hI hD
  exact rq_w rfl hD (tX6_record_o (d4.mpr ho))
theorem op0 (hI : Inv (bk C 1) hd tc op lc tl ll lt) (hD : SC C D) (ho : op = 0) : D 1 0 = 0 := by
  have h : D 1 0 = nI op := (Inv_SC hD hI).2.1.2.2.1
  rw [h, ho]
  rfl
theorem q_record_f (ho : op = 0) (ht : tc = 6) (hI : Inv (bk C 1) hd tc op lc tl ll lt) (hD : SC C D) : Ct G l yX6_record cX6_record 1 (some .int) 5 0 0 sz [.ref a] (B G a D) (Rq G a C (-3)) := by
  obtain ⟨d1, d2, d3, d4, -⟩ := fD hI hD
  exact rq_w rfl hD (tX6_record_f (op0 hI hD ho) (by rw [d1, ht]; rfl))
theorem q_end_o (ho : op = 0) (hI : Inv (bk C 1) hd tc op lc tl ll lt) (hD : SC C D) : Ct G l yX6_end cX6_end 1 (some .int) 5 0 0 sz [.ref a] (B G a D) (Rq G a C (-4)) := rq_w rfl hD (tX6_end_o (op0 hI hD ho))
theorem q_dropTry_o (x1 : Int32) (hx : ¬ isIx x1 tc) (hI : Inv (bk C 1) hd tc op lc tl ll lt) (hD : SC C D) : Ct G l yX6_dropTry cX6_dropTry 2 (some .int) 5 0 0 sz [.ref a, .int x1] (B G a D) (Rq G a C (-1)) := by
  obtain ⟨d1, d2, -⟩ := fD hI hD
  exact rq_w rfl hD (tX6_dropTry_o x1 d1 d2 hx)
theorem q_dropLoop_o (x1 : Int32) (hx : ¬ isIx x1 lc) (hI : Inv (bk C 1) hd tc op lc tl ll lt) (hD : SC C D) : Ct G l yX6_dropLoop cX6_dropLoop 2 (some .int) 5 0 0 sz [.ref a, .int x1] (B G a D) (Rq G a C (-1)) := by
  obtain ⟨d1, d2, d3, d4, d5, d6, d7, -⟩ := fD hI hD
  exact rq_w rfl hD (tX6_dropLoop_o x1 d6 d7 hx)
theorem q_generalise_o (x1 x2 : Int32) (hx : ¬ (isIx x1 tc ∧ isIx x2 tc)) (hI : Inv (bk C 1) hd tc op lc tl ll lt) (hD : SC C D) : Ct G l yX6_generalise cX6_generalise 3 (some .int) 5 0 0 sz [.ref a, .int x1, .int x2] (B G a D) (Rq G a C (-1)) := by
  obtain ⟨d1, d2, -⟩ := fD hI hD
  exact rq_w rfl hD (tX6_generalise_o x1 x2 d1 d2 hx)
theorem likC_SC {i j p q : Nat} (hD : SC C D) : likC D i j p q ↔ likC C i j p q := by
  unfold likC
  show (_ ∧ ∀ k, k < _ → D 5 _ = D 5 _) ↔ (_ ∧ ∀ k, k < _ → C 5 _ = C 5 _)
  rw [hD.lo (i := 5) (by decide)]
theorem q_generalise_n {i j : Nat} (hi : i < tc) (hj : j < tc) (hn : ¬ (i ≠ j ∧ likC C i j (tl i) (tl j))) (hI : Inv (bk C 1) hd tc op lc tl ll lt) (hD : SC C D) : Ct G l yX6_generalise cX6_generalise 3 (some .int) 5 0 0 sz [.ref a, .int (nI i), .int (nI j)] (B G a D) (Rq G a C (-4)) := by
  obtain ⟨d1, d2, d3, d4, d5, d6, d7, d8, d9, d10, d11⟩ := fD hI hD
  exact rq_w rfl hD (tX6_generalise_n (si := tl i) (sj := tl j) d1 d2 hi hj (d10 i (by omega)).1 (d10 j (by omega)).1 (d10 i (by omega)).2 (d10 j (by omega)).2 (fun z => hn ⟨z.1, (likC_SC hD).mp z.2⟩))
theorem q_generalise_f {i j : Nat} (hi : i < tc) (hj : j < tc) (hn : i ≠ j ∧ likC C i j (tl i) (tl j)) (h6 : lc = 6) (hI : Inv (bk C 1) hd tc op lc tl ll lt) (hD : SC C D) : Ct G l yX6_generalise cX6_generalise 3 (some .int) 5 0 0 sz [.ref a, .int (nI i), .int (nI j)] (B G a D) (Rq G a C (-3)) := by
  obtain ⟨d1, d2, d3, d4, d5, d6, d7, d8, d9, d10, d11⟩ := fD hI hD
  exact rq_w rfl hD (tX6_generalise_f (si := tl i) (sj := tl j) d1 d2 hi hj (d10 i (by omega)).1 (d10 j (by omega)).1 (d10 i (by omega)).2 (d10 j (by omega)).2 ⟨hn.1, (likC_SC hD).mpr hn.2⟩ (by rw [d6, h6]; rfl))
theorem q_fold_o (x1 : Int32) (hx : ¬ isIx x1 tc) (hI : Inv (bk C 1) hd tc op lc tl ll lt) (hD : SC C D) : Ct G l yX6_fold cX6_fold 3 (some .int) 5 0 0 sz [.ref a, .int x1] (B G a D) (Rq G a C (-1)) := by
  obtain ⟨d1, d2, -⟩ := fD hI hD
  exact rq_w rfl hD (tX6_fold_o x1 d1 d2 hx)
theorem q_setTurns_o (x1 x2 : Int32) (hx : ¬ isIx x1 lc) (hI : Inv (bk C 1) hd tc op lc tl ll lt) (hD : SC C D) : Ct G l yX6_setTurns cX6_setTurns 4 (some .int) 5 0 0 sz [.ref a, .int x1, .int x2] (B G a D) (Rq G a C (-1)) := by
  obtain ⟨d1, d2, d3, d4, d5, d6, d7, -⟩ := fD hI hD
  exact rq_w rfl hD (tX6_setTurns_o x1 x2 d6 d7 hx)
theorem q_setTurns_r {n : Nat} (x2 : Int32) (hn : n < lc) (hx : ¬ (1 ≤ x2 ∧ x2 ≤ 99)) (hI : Inv (bk C 1) hd tc op lc tl ll lt) (hD : SC C D) : Ct G l yX6_setTurns cX6_setTurns 4 (some .int) 5 0 0 sz [.ref a, .int (nI n), .int x2] (B G a D) (Rq G a C (-2)) := by
  obtain ⟨d1, d2, d3, d4, d5, d6, d7, -⟩ := fD hI hD
  exact rq_w rfl hD (tX6_setTurns_r x2 d6 d7 hn hx)
theorem q_setTurns_s {n : Nat} (hn : n < lc) (hI : Inv (bk C 1) hd tc op lc tl ll lt) (hD : SC C D) : Ct G l yX6_setTurns cX6_setTurns 4 (some .int) 5 0 0 sz [.ref a, .int (nI n), .int (nI (lt n))] (B G a D) (Rq G a C (-5)) := by
  obtain ⟨d1, d2, d3, d4, d5, d6, d7, d8, d9, d10, d11⟩ := fD hI hD
  obtain ⟨l1, l2, l3, l4, l5, l6⟩ := d11 n hn
  exact rq_w rfl hD (tX6_setTurns_s (nI (lt n)) d6 d7 hn ⟨(nle (a := 1) (by omega) (by omega)).mpr (by omega), (nle (b := 99) (by omega) (by omega)).mpr (by omega)⟩ l4)
theorem q_play_x (x1 : Int32) (hx : ¬ isIx x1 lc) (hI : Inv (bk C 1) hd tc op lc tl ll lt) (hD : SC C D) : Ct G l yX6_play cX6_play 2 (some .int) 6 0 0 sz [.ref a, .int x1] (B G a D) (Rq G a C (-1)) := by
  obtain ⟨d1, d2, d3, d4, d5, d6, d7, -⟩ := fD hI hD
  exact rq_w rfl hD (tX6_play_x x1 d6 d7 hx)
theorem q_play_o {n : Nat} (hn : n < lc) (ho : op = 1) (hI : Inv (bk C 1) hd tc op lc tl ll lt) (hD : SC C D) : Ct G l yX6_play cX6_play 2 (some .int) 6 0 0 sz [.ref a, .int (nI n)] (B G a D) (Rq G a C (-4)) := by
  obtain ⟨d1, d2, d3, d4, d5, d6, d7, -⟩ := fD hI hD
  exact rq_w rfl hD (tX6_play_o d6 d7 hn (d4.mpr ho))
theorem q_clearText (hJ : JW C st) (hD : SC C D) : Ct G l yX6_clearText cX6_clearText 2 (some .int) 0 0 0 sz [.ref a] (B G a D) (Rq G a C 0) := by
  obtain ⟨a1, a2, a3, a4, a5, a6, a7⟩ := JW_SC hD hJ
  refine tX6_clearText.weaken (fun r h' q => ⟨mset D 93 (upd (D 93) 0 0), by rw [q.1, a6], q.2, ?_, fun i hi => ?_⟩)
  · rw [mset_s, pk_us, ← hD.1, a6]
  · rw [mset_n (scr_ne rfl hi)]
    exact hD.2 i hi
theorem q_perform (hJ : JW C st) (hD : SC C D) : Ct G l yX6_perform cX6_perform 4 (some .int) 8 0 0 sz [.ref a] (B G a D) (Rq G a C (-100)) := by
  obtain ⟨a1, a2, a3, a4, a5, a6, a7⟩ := JW_SC hD hJ
  have hp : pTxt (chC D 0) 0 60 0 [] = (none, 0) := rfl
  refine (tX6_perform_f (n := 0) (q := 0) hp a7 a6 (by decide)).weaken (fun r h' q => ?_)
  obtain ⟨W, q1, q2, q3, q4⟩ := q
  refine ⟨W, q1, q2, by rw [q3, hD.1], fun i hi => ?_⟩
  rw [q4 i (by unfold scr at hi; simp at hi; omega)]
  exact hD.2 i hi
theorem q_undo_0 (h0 : D 16 0 = 0) (hD : SC C D) : Ct G l yX6_undo cX6_undo 1 (some .int) 5 0 0 sz [.ref a] (B G a D) (Rq G a C (-5)) := rq_w rfl hD (tX6_undo_0 h0)
theorem q_restore_o (h0 : D 0 0 = 0) (hD : SC C D) : Ct G l yX6_restore cX6_restore 1 (some .int) 5 0 0 sz [.ref a] (B G a D) (Rq G a C (-5)) := rq_w rfl hD (tX6_restore_o h0)
end QRY
