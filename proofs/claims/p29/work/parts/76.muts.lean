/-! The class's changes in a world alike to C but for scratch. -/
def nup (f : Nat → Nat) (k x : Nat) : Nat → Nat := fun i => if i = k then x else f i
theorem nup_s {f : Nat → Nat} {k x : Nat} : nup f k x k = x := by unfold nup; rw [if_pos rfl]
theorem nup_n {f : Nat → Nat} {k x i : Nat} (h : i ≠ k) : nup f k x i = f i := by unfold nup; rw [if_neg h]
theorem TrI_of {b b' : Bk} {i j n : Nat} (h7 : b' 7 i = nI n) (h4 : ∀ k, k < n → b' 4 (i * 12 + k) = b 4 (j * 12 + k)) (h5 : ∀ k, k < n → b' 5 (i * 12 + k) = b 5 (j * 12 + k)) (h : TrI b j n) : TrI b' i n :=
  ⟨h7, h.2.1, fun k hk => by rw [h4 k hk, h5 k hk]; exact h.2.2 k hk⟩
theorem LpI_of {b b' : Bk} {i j n t t' : Nat} (h13 : b' 13 i = nI n) (h14 : b' 14 i = nI t') (ht : 1 ≤ t' ∧ t' ≤ 99) (h4 : ∀ k, k < n → b' 10 (i * 12 + k) = b 10 (j * 12 + k)) (h5 : ∀ k, k < n → b' 11 (i * 12 + k) = b 11 (j * 12 + k)) (h6 : ∀ k, k < n → b' 12 (i * 12 + k) = b 12 (j * 12 + k)) (h : LpI b j n t) : LpI b' i n t' :=
  ⟨h13, h.2.1, h.2.2.1, h14, ht.1, ht.2, fun k hk => by rw [h4 k hk, h5 k hk, h6 k hk]; exact h.2.2.2.2.2.2 k hk⟩
theorem fJ {C D : CT} {st : Nat} (hJ : JW C st) (hD : SC C D) : HiK D ∧ st ≤ 4 ∧ D 16 0 = nI st := ⟨(JW_SC hD hJ).2.1, hJ.1, (JW_SC hD hJ).2.2.1⟩
section MUT
variable {G : GT} {l : Launch} {sz a st hd tc op lc : Nat} {tl ll lt : Nat → Nat} {C D : CT}
theorem m_record (ho : op = 0) (ht : tc < 6) (hJ : JW C st) (hI : Inv (bk C 1) hd tc op lc tl ll lt) (hD : SC C D) : Ct G l yX6_record cX6_record 1 (some .int) 5 0 0 sz [.ref a] (B G a D) (Rm G a (nI tc) (fun C' => Psh C st C' ∧ Inv (bk C' 1) hd tc 1 lc (nup tl tc 0) ll lt)) := by
  obtain ⟨d1, d2, d3, d4, d5, d6, d7, d8, d9, d10, d11⟩ := fD hI hD
  obtain ⟨j1, j2, j3⟩ := fJ hJ hD
  refine rm_p rfl (tX6_record (tc := tc) (st := st) (op0 hI hD ho) d1 ht j1 j2 j3) (fun C1 hP => ?_)
  have lo : ∀ i, i < 16 → C1 i = C i := fun i hi => (hP.1 i (Or.inl hi)).trans (hD.lo (by omega))
  refine ⟨SC_Psh hJ hD (Psh_of j2 hP (fun i h1 h2 => by rw [mset_n (by omega), mset_n (by omega)])), ?_⟩
  obtain ⟨⟨i1, i2, i3⟩, ⟨t1, t2, t3, t4, t5, t6⟩, l1, l2, l3⟩ := hI
  obtain ⟨C2, hC2⟩ : ∃ C2, C2 = mset (mset C1 1 (upd (C1 1) 0 1)) 8 (upd (C1 8) tc 0) := ⟨_, rfl⟩
  have o1 : C2 1 = upd (C 1) 0 1 := by rw [hC2, mset_n (by decide), mset_s, lo 1 (by decide)]
  have o8 : C2 8 = upd (C 8) tc 0 := by rw [hC2, mset_s, lo 8 (by decide)]
  have on : ∀ i, i < 16 → i ≠ 1 → i ≠ 8 → C2 i = C i := fun i h0 h1 h2 => by rw [hC2, mset_n h2, mset_n h1, lo i h0]
  rw [← hC2]
  refine ⟨⟨?_, i2, fun j hj => ?_⟩, ⟨?_, t2, ?_, Or.inr ⟨rfl, ht⟩, fun i hi => ?_, fun i hi => ?_⟩, ?_, l2, fun i hi => ?_⟩
  · show C2 2 0 = nI hd
    rw [on 2 (by decide) (by decide) (by decide)]
    exact i1
  · show ∃ x, x < 100 ∧ C2 3 j = nI x
    rw [on 3 (by decide) (by decide) (by decide)]
    exact i3 j hj
  · show C2 4 0 = nI tc
    rw [on 4 (by decide) (by decide) (by decide)]
    exact t1
  · show C2 1 0 = nI 1
    rw [o1, pk_us]
    rfl
  · by_cases hit : i = tc
    · subst hit
      rw [nup_s]
      exact ⟨by show C2 8 i = nI 0; rw [o8, pk_us]; rfl, by decide, fun k hk => absurd hk (Nat.not_lt_zero k)⟩
    · rw [nup_n hit]
      refine TrI_of (b := bk C 1) (j := i) ?_ (fun k hk => ?_) (fun k hk => ?_) (t5 i (by omega))
      · show C2 8 i = _
        rw [o8, pk_un hit]
        exact (t5 i (by omega)).1
      · show C2 5 _ = C 5 _
        rw [on 5 (by decide) (by decide) (by decide)]
      · show C2 6 _ = C 6 _
        rw [on 6 (by decide) (by decide) (by decide)]
  · rw [nup_n (by omega)]
    exact t6 i hi
  · show C2 10 0 = nI lc
    rw [on 10 (by decide) (by decide) (by decide)]
    exact l1
  · have q := l3 i hi
    refine LpI_of (b := bk C 1) (j := i) (t := lt i) ?_ ?_ ⟨q.2.2.2.2.1, q.2.2.2.2.2.1⟩ (fun k hk => ?_) (fun k hk => ?_) (fun k hk => ?_) q
    · show C2 14 i = _
      rw [on 14 (by decide) (by decide) (by decide)]
      exact q.1
    · show C2 15 i = _
      rw [on 15 (by decide) (by decide) (by decide)]
      exact q.2.2.2.1
    · show C2 11 _ = C 11 _
      rw [on 11 (by decide) (by decide) (by decide)]
    · show C2 12 _ = C 12 _
      rw [on 12 (by decide) (by decide) (by decide)]
    · show C2 13 _ = C 13 _
      rw [on 13 (by decide) (by decide) (by decide)]
/-- loops unchanged -/
theorem lps_eq {C C2 : CT} (e : ∀ i, 10 ≤ i → i < 16 → C2 i = C i) (h : bk C 1 9 0 = nI lc ∧ lc ≤ 6 ∧ ∀ i, i < lc → LpI (bk C 1) i (ll i) (lt i)) : bk C2 1 9 0 = nI lc ∧ lc ≤ 6 ∧ ∀ i, i < lc → LpI (bk C2 1) i (ll i) (lt i) := by
  obtain ⟨l1, l2, l3⟩ := h
  refine ⟨?_, l2, fun i hi => ?_⟩
  · show C2 10 0 = nI lc
    rw [e 10 (by decide) (by decide)]
    exact l1
  · have q := l3 i hi
    refine LpI_of (b := bk C 1) (j := i) (t := lt i) ?_ ?_ ⟨q.2.2.2.2.1, q.2.2.2.2.2.1⟩ (fun k hk => ?_) (fun k hk => ?_) (fun k hk => ?_) q
    · show C2 14 i = _
      rw [e 14 (by decide) (by decide)]
      exact q.1
    · show C2 15 i = _
      rw [e 15 (by decide) (by decide)]
      exact q.2.2.2.1
    · show C2 11 _ = C 11 _
      rw [e 11 (by decide) (by decide)]
    · show C2 12 _ = C 12 _
      rw [e 12 (by decide) (by decide)]
    · show C2 13 _ = C 13 _
      rw [e 13 (by decide) (by decide)]
/-- tries unchanged -/
theorem trs_eq {C C2 : CT} (e0 : C2 1 0 = C 1 0) (e : ∀ i, 4 ≤ i → i < 9 → C2 i = C i) (h : bk C 1 3 0 = nI tc ∧ tc ≤ 6 ∧ bk C 1 0 0 = nI op ∧ (op = 0 ∨ (op = 1 ∧ tc < 6)) ∧ (∀ i, i < tc + op → TrI (bk C 1) i (tl i)) ∧ ∀ i, i < tc → 1 ≤ tl i) : bk C2 1 3 0 = nI tc ∧ tc ≤ 6 ∧ bk C2 1 0 0 = nI op ∧ (op = 0 ∨ (op = 1 ∧ tc < 6)) ∧ (∀ i, i < tc + op → TrI (bk C2 1) i (tl i)) ∧ ∀ i, i < tc → 1 ≤ tl i := by
  obtain ⟨t1, t2, t3, t4, t5, t6⟩ := h
  refine ⟨?_, t2, ?_, t4, fun i hi => ?_, t6⟩
  · show C2 4 0 = nI tc
    rw [e 4 (by decide) (by decide)]
    exact t1
  · show C2 1 0 = nI op
    rw [e0]
    exact t3
  · refine TrI_of (b := bk C 1) (j := i) ?_ (fun k hk => ?_) (fun k hk => ?_) (t5 i hi)
    · show C2 8 i = _
      rw [e 8 (by decide) (by decide)]
      exact (t5 i hi).1
    · show C2 5 _ = C 5 _
      rw [e 5 (by decide) (by decide)]
    · show C2 6 _ = C 6 _
      rw [e 6 (by decide) (by decide)]
/-- the row unchanged -/
theorem row_eq {C C2 : CT} (e2 : C2 2 = C 2) (e3 : C2 3 = C 3) (h : bk C 1 1 0 = nI hd ∧ hd < 30 ∧ ∀ j, j < 30 → ∃ x, x < 100 ∧ bk C 1 2 j = nI x) : bk C2 1 1 0 = nI hd ∧ hd < 30 ∧ ∀ j, j < 30 → ∃ x, x < 100 ∧ bk C2 1 2 j = nI x := by
  obtain ⟨i1, i2, i3⟩ := h
  refine ⟨?_, i2, fun j hj => ?_⟩
  · show C2 2 0 = nI hd
    rw [e2]
    exact i1
  · show ∃ x, x < 100 ∧ C2 3 j = nI x
    rw [e3]
    exact i3 j hj
theorem m_end_0 (ho : op = 1) (hl : tl tc = 0) (hJ : JW C st) (hI : Inv (bk C 1) hd tc op lc tl ll lt) (hD : SC C D) : Ct G l yX6_end cX6_end 1 (some .int) 5 0 0 sz [.ref a] (B G a D) (Rm G a 100 (fun C' => Psh C st C' ∧ Inv (bk C' 1) hd tc 0 lc tl ll lt)) := by
  obtain ⟨d1, d2, d3, d4, d5, d6, d7, d8, d9, d10, d11⟩ := fD hI hD
  obtain ⟨j1, j2, j3⟩ := fJ hJ hD
  refine rm_p (by rw [if_pos hl]) (tX6_end (tc := tc) (len := tl tc) (st := st) (d4.mpr ho) d1 (d5 ho) (d10 tc (by omega)).1 (d10 tc (by omega)).2 j1 j2 j3) (fun C1 hP => ?_)
  have lo : ∀ i, i < 16 → C1 i = C i := fun i hi => (hP.1 i (Or.inl hi)).trans (hD.lo (by omega))
  rw [if_pos hl]
  refine ⟨SC_Psh hJ hD (Psh_of j2 hP (fun i h1 h2 => by rw [mset_n (by omega)])), ?_⟩
  obtain ⟨r, ⟨t1, t2, t3, t4, t5, t6⟩, lp⟩ := hI
  obtain ⟨C2, hC2⟩ : ∃ C2, C2 = mset C1 1 (upd (C1 1) 0 0) := ⟨_, rfl⟩
  have o1 : C2 1 0 = 0 := by rw [hC2, mset_s, pk_us]
  have on : ∀ i, i < 16 → i ≠ 1 → C2 i = C i := fun i h0 h1 => by rw [hC2, mset_n h1, lo i h0]
  rw [← hC2]
  refine ⟨row_eq (on 2 (by decide) (by decide)) (on 3 (by decide) (by decide)) r, ⟨?_, t2, o1, Or.inl rfl, fun i hi => ?_, t6⟩, lps_eq (fun i h1 h2 => on i h2 (by omega)) lp⟩
  · show C2 4 0 = nI tc
    rw [on 4 (by decide) (by decide)]
    exact t1
  · refine TrI_of (b := bk C 1) (j := i) ?_ (fun k hk => ?_) (fun k hk => ?_) (t5 i (by omega))
    · show C2 8 i = _
      rw [on 8 (by decide) (by decide)]
      exact (t5 i (by omega)).1
    · show C2 5 _ = C 5 _
      rw [on 5 (by decide) (by decide)]
    · show C2 6 _ = C 6 _
      rw [on 6 (by decide) (by decide)]
theorem m_end (ho : op = 1) (hl : ¬ tl tc = 0) (hJ : JW C st) (hI : Inv (bk C 1) hd tc op lc tl ll lt) (hD : SC C D) : Ct G l yX6_end cX6_end 1 (some .int) 5 0 0 sz [.ref a] (B G a D) (Rm G a (nI tc) (fun C' => Psh C st C' ∧ Inv (bk C' 1) hd (tc + 1) 0 lc tl ll lt)) := by
  obtain ⟨d1, d2, d3, d4, d5, d6, d7, d8, d9, d10, d11⟩ := fD hI hD
  obtain ⟨j1, j2, j3⟩ := fJ hJ hD
  have h6 := d5 ho
  refine rm_p (by rw [if_neg hl]) (tX6_end (tc := tc) (len := tl tc) (st := st) (d4.mpr ho) d1 (d5 ho) (d10 tc (by omega)).1 (d10 tc (by omega)).2 j1 j2 j3) (fun C1 hP => ?_)
  have lo : ∀ i, i < 16 → C1 i = C i := fun i hi => (hP.1 i (Or.inl hi)).trans (hD.lo (by omega))
  rw [if_neg hl]
  refine ⟨SC_Psh hJ hD (Psh_of j2 hP (fun i h1 h2 => by rw [mset_n (by omega), mset_n (by omega), mset_n (by omega)])), ?_⟩
  obtain ⟨r, ⟨t1, t2, t3, t4, t5, t6⟩, lp⟩ := hI
  obtain ⟨C2, hC2⟩ : ∃ C2, C2 = mset (mset (mset C1 1 (upd (C1 1) 0 0)) 9 (upd (C1 9) tc 1)) 4 (upd (C1 4) 0 (nI (tc + 1))) := ⟨_, rfl⟩
  have o1 : C2 1 0 = 0 := by rw [hC2, mset_n (by decide), mset_n (by decide), mset_s, pk_us]
  have o4 : C2 4 0 = nI (tc + 1) := by rw [hC2, mset_s, pk_us]
  have on : ∀ i, i < 16 → i ≠ 1 → i ≠ 4 → i ≠ 9 → C2 i = C i := fun i h0 h1 h2 h3 => by rw [hC2, mset_n h2, mset_n h3, mset_n h1, lo i h0]
  rw [← hC2]
  refine ⟨row_eq (on 2 (by decide) (by decide) (by decide) (by decide)) (on 3 (by decide) (by decide) (by decide) (by decide)) r, ⟨o4, by omega, o1, Or.inl rfl, fun i hi => ?_, fun i hi => ?_⟩, lps_eq (fun i h1 h2 => on i h2 (by omega) (by omega) (by omega)) lp⟩
  · refine TrI_of (b := bk C 1) (j := i) ?_ (fun k hk => ?_) (fun k hk => ?_) (t5 i (by omega))
    · show C2 8 i = _
      rw [on 8 (by decide) (by decide) (by decide) (by decide)]
      exact (t5 i (by omega)).1
    · show C2 5 _ = C 5 _
      rw [on 5 (by decide) (by decide) (by decide) (by decide)]
    · show C2 6 _ = C 6 _
      rw [on 6 (by decide) (by decide) (by decide) (by decide)]
  · by_cases hit : i = tc
    · subst hit; omega
    · exact t6 i (by omega)
theorem mvU_lo {f : Nat → Int32} {n w M j : Nat} (h : j < n * w) : mvU f n w M j = f j := by
  unfold mvU va_cpy
  rw [if_neg (by omega)]
theorem mvU_hi {f : Nat → Int32} {n w M j : Nat} (h : n * w ≤ j) (h2 : j + w < M) : mvU f n w M j = f (j + w) := by
  unfold mvU va_cpy
  rw [if_pos (by omega)]
  congr 1
  omega
theorem drS_q {C : CT} {q W N n cnt i : Nat} (h : i < q ∨ q + 5 < i) : drS C q W N n cnt i = C i := by
  unfold drS
  rw [mset_n (by omega), mset_n (by omega), mset_n (by omega), mset_n (by omega), mset_n (by omega), mset_n (by omega)]
/-- the numbers of a row without its n-th -/
def nsh (f : Nat → Nat) (n : Nat) : Nat → Nat := fun i => if i < n then f i else f (i + 1)
theorem m_dropTry {n : Nat} (hn : n < tc) (hJ : JW C st) (hI : Inv (bk C 1) hd tc op lc tl ll lt) (hD : SC C D) : Ct G l yX6_dropTry cX6_dropTry 2 (some .int) 5 0 0 sz [.ref a, .int (nI n)] (B G a D) (Rm G a (nI (tc - 1)) (fun C' => Psh C st C' ∧ Inv (bk C' 1) hd (tc - 1) op lc (nsh tl n) ll lt)) := by
  obtain ⟨d1, d2, d3, d4, d5, d6, d7, d8, d9, d10, d11⟩ := fD hI hD
  obtain ⟨j1, j2, j3⟩ := fJ hJ hD
  refine rm_p rfl (tX6_dropTry (tc := tc) (n := n) (st := st) d1 d2 hn j1 j2 j3 d3) (fun C1 hP => ?_)
  have lo : ∀ i, i < 16 → C1 i = C i := fun i hi => (hP.1 i (Or.inl hi)).trans (hD.lo (by omega))
  refine ⟨SC_Psh hJ hD (Psh_of j2 hP (fun i h1 h2 => drS_q (by omega))), ?_⟩
  obtain ⟨r, ⟨t1, t2, t3, t4, t5, t6⟩, lp⟩ := hI
  obtain ⟨C2, hC2⟩ : ∃ C2, C2 = drS C1 4 12 6 n tc := ⟨_, rfl⟩
  have on : ∀ i, i < 16 → (i < 4 ∨ 9 < i) → C2 i = C i := fun i h0 h1 => by rw [hC2, drS_q (by omega), lo i h0]
  have o4 : C2 4 0 = nI (tc - 1) := by rw [hC2]; unfold drS; rw [mset_s, pk_us]
  have o5 : C2 5 = mvU (C 5) n 12 72 := by rw [hC2]; unfold drS; rw [mset_n (by decide), mset_n (by decide), mset_n (by decide), mset_n (by decide), mset_n (by decide), mset_s, lo _ (by decide)]
  have o6 : C2 6 = mvU (C 6) n 12 72 := by rw [hC2]; unfold drS; rw [mset_n (by decide), mset_n (by decide), mset_n (by decide), mset_n (by decide), mset_s, lo _ (by decide)]
  have o8 : C2 8 = mvU (C 8) n 1 6 := by rw [hC2]; unfold drS; rw [mset_n (by decide), mset_n (by decide), mset_s, lo _ (by decide)]
  rw [← hC2]
  refine ⟨row_eq (on 2 (by decide) (by decide)) (on 3 (by decide) (by decide)) r, ⟨o4, by omega, ?_, by omega, fun i hi => ?_, fun i hi => ?_⟩, lps_eq (fun i h1 h2 => on i h2 (by omega)) lp⟩
  · show C2 1 0 = nI op
    rw [on 1 (by decide) (by decide)]
    exact t3
  · unfold nsh
    by_cases hin : i < n
    · rw [if_pos hin]
      have q := t5 i (by omega)
      have q2 := q.2.1
      refine TrI_of (b := bk C 1) (j := i) ?_ (fun k hk => ?_) (fun k hk => ?_) q
      · show C2 8 i = _
        rw [o8, mvU_lo (by omega)]
        exact q.1
      · show C2 5 _ = C 5 _
        rw [o5, mvU_lo (by omega)]
      · show C2 6 _ = C 6 _
        rw [o6, mvU_lo (by omega)]
    · rw [if_neg hin]
      have q := t5 (i + 1) (by omega)
      have q2 := q.2.1
      refine TrI_of (b := bk C 1) (j := i + 1) ?_ (fun k hk => ?_) (fun k hk => ?_) q
      · show C2 8 i = _
        rw [o8, mvU_hi (by omega) (by omega)]
        exact q.1
      · show C2 5 _ = C 5 _
        rw [o5, mvU_hi (by omega) (by omega)]
        exact congrArg _ (by omega)
      · show C2 6 _ = C 6 _
        rw [o6, mvU_hi (by omega) (by omega)]
        exact congrArg _ (by omega)
  · unfold nsh
    by_cases hin : i < n
    · rw [if_pos hin]; exact t6 i (by omega)
    · rw [if_neg hin]; exact t6 (i + 1) (by omega)
theorem m_dropLoop {n : Nat} (hn : n < lc) (hJ : JW C st) (hI : Inv (bk C 1) hd tc op lc tl ll lt) (hD : SC C D) : Ct G l yX6_dropLoop cX6_dropLoop 2 (some .int) 5 0 0 sz [.ref a, .int (nI n)] (B G a D) (Rm G a (nI (lc - 1)) (fun C' => Psh C st C' ∧ Inv (bk C' 1) hd tc op (lc - 1) tl (nsh ll n) (nsh lt n))) := by
  obtain ⟨d1, d2, d3, d4, d5, d6, d7, d8, d9, d10, d11⟩ := fD hI hD
  obtain ⟨j1, j2, j3⟩ := fJ hJ hD
  refine rm_p rfl (tX6_dropLoop (lc := lc) (n := n) (st := st) d6 d7 hn j1 j2 j3 d3) (fun C1 hP => ?_)
  have lo : ∀ i, i < 16 → C1 i = C i := fun i hi => (hP.1 i (Or.inl hi)).trans (hD.lo (by omega))
  refine ⟨SC_Psh hJ hD (Psh_of j2 hP (fun i h1 h2 => drS_q (by omega))), ?_⟩
  obtain ⟨r, tr, l1, l2, l3⟩ := hI
  obtain ⟨C2, hC2⟩ : ∃ C2, C2 = drS C1 10 12 6 n lc := ⟨_, rfl⟩
  have on : ∀ i, i < 16 → i < 10 → C2 i = C i := fun i h0 h1 => by rw [hC2, drS_q (by omega), lo i h0]
  have o10 : C2 10 0 = nI (lc - 1) := by rw [hC2]; unfold drS; rw [mset_s, pk_us]
  have o11 : C2 11 = mvU (C 11) n 12 72 := by rw [hC2]; unfold drS; rw [mset_n (by decide), mset_n (by decide), mset_n (by decide), mset_n (by decide), mset_n (by decide), mset_s, lo _ (by decide)]
  have o12 : C2 12 = mvU (C 12) n 12 72 := by rw [hC2]; unfold drS; rw [mset_n (by decide), mset_n (by decide), mset_n (by decide), mset_n (by decide), mset_s, lo _ (by decide)]
  have o13 : C2 13 = mvU (C 13) n 12 72 := by rw [hC2]; unfold drS; rw [mset_n (by decide), mset_n (by decide), mset_n (by decide), mset_s, lo _ (by decide)]
  have o14 : C2 14 = mvU (C 14) n 1 6 := by rw [hC2]; unfold drS; rw [mset_n (by decide), mset_n (by decide), mset_s, lo _ (by decide)]
  have o15 : C2 15 = mvU (C 15) n 1 6 := by rw [hC2]; unfold drS; rw [mset_n (by decide), mset_s, lo _ (by decide)]
  rw [← hC2]
  refine ⟨row_eq (on 2 (by decide) (by decide)) (on 3 (by decide) (by decide)) r, trs_eq (by rw [on 1 (by decide) (by decide)]) (fun i h1 h2 => on i (by omega) (by omega)) tr, o10, by omega, fun i hi => ?_⟩
  unfold nsh
  by_cases hin : i < n
  · rw [if_pos hin, if_pos hin]
    have q := l3 i (by omega)
    have q2 := q.2.2.1
    refine LpI_of (b := bk C 1) (j := i) (t := lt i) ?_ ?_ ⟨q.2.2.2.2.1, q.2.2.2.2.2.1⟩ (fun k hk => ?_) (fun k hk => ?_) (fun k hk => ?_) q
    · show C2 14 i = _
      rw [o14, mvU_lo (by omega)]
      exact q.1
    · show C2 15 i = _
      rw [o15, mvU_lo (by omega)]
      exact q.2.2.2.1
    · show C2 11 _ = C 11 _
      rw [o11, mvU_lo (by omega)]
    · show C2 12 _ = C 12 _
      rw [o12, mvU_lo (by omega)]
    · show C2 13 _ = C 13 _
      rw [o13, mvU_lo (by omega)]
  · rw [if_neg hin, if_neg hin]
    have q := l3 (i + 1) (by omega)
    have q2 := q.2.2.1
    refine LpI_of (b := bk C 1) (j := i + 1) (t := lt (i + 1)) ?_ ?_ ⟨q.2.2.2.2.1, q.2.2.2.2.2.1⟩ (fun k hk => ?_) (fun k hk => ?_) (fun k hk => ?_) q
    · show C2 14 i = _
      rw [o14, mvU_hi (by omega) (by omega)]
      exact q.1
    · show C2 15 i = _
      rw [o15, mvU_hi (by omega) (by omega)]
      exact q.2.2.2.1
    · show C2 11 _ = C 11 _
      rw [o11, mvU_hi (by omega) (by omega)]
      exact congrArg _ (by omega)
    · show C2 12 _ = C 12 _
      rw [o12, mvU_hi (by omega) (by omega)]
      exact congrArg _ (by omega)
    · show C2 13 _ = C 13 _
      rw [o13, mvU_hi (by omega) (by omega)]
      exact congrArg _ (by omega)
theorem m_setTurns {n T : Nat} (hn : n < lc) (hT : 1 ≤ T ∧ T ≤ 99) (hne : lt n ≠ T) (hJ : JW C st) (hI : Inv (bk C 1) hd tc op lc tl ll lt) (hD : SC C D) : Ct G l yX6_setTurns cX6_setTurns 4 (some .int) 5 0 0 sz [.ref a, .int (nI n), .int (nI T)] (B G a D) (Rm G a (nI (lt n)) (fun C' => Psh C st C' ∧ Inv (bk C' 1) hd tc op lc tl ll (nup lt n T))) := by
  obtain ⟨d1, d2, d3, d4, d5, d6, d7, d8, d9, d10, d11⟩ := fD hI hD
  obtain ⟨j1, j2, j3⟩ := fJ hJ hD
  obtain ⟨e1, e2, e3, e4, e5, e6⟩ := d11 n hn
  refine rm_p e4 (tX6_setTurns (lc := lc) (n := n) (st := st) (nI T) d6 d7 hn ⟨(nle (a := 1) (by omega) (by omega)).mpr hT.1, (nle (b := 99) (by omega) (by omega)).mpr hT.2⟩ (fun z => hne ((neq (by omega) (by omega)).mp (e4.symm.trans z))) j1 j2 j3 d3) (fun C1 hP => ?_)
  have lo : ∀ i, i < 16 → C1 i = C i := fun i hi => (hP.1 i (Or.inl hi)).trans (hD.lo (by omega))
  refine ⟨SC_Psh hJ hD (Psh_of j2 hP (fun i h1 h2 => mset_n (by omega))), ?_⟩
  obtain ⟨r, tr, l1, l2, l3⟩ := hI
  obtain ⟨C2, hC2⟩ : ∃ C2, C2 = mset C1 15 (upd (C1 15) n (nI T)) := ⟨_, rfl⟩
  have on : ∀ i, i < 16 → i ≠ 15 → C2 i = C i := fun i h0 h1 => by rw [hC2, mset_n h1, lo i h0]
  have o15 : C2 15 = upd (C 15) n (nI T) := by rw [hC2, mset_s, lo 15 (by decide)]
  rw [← hC2]
  refine ⟨row_eq (on 2 (by decide) (by decide)) (on 3 (by decide) (by decide)) r, trs_eq (by rw [on 1 (by decide) (by decide)]) (fun i h1 h2 => on i (by omega) (by omega)) tr, ?_, l2, fun i hi => ?_⟩
  · show C2 10 0 = nI lc
    rw [on 10 (by decide) (by decide)]
    exact l1
  · have q := l3 i hi
    have key : C2 15 i = nI (nup lt n T i) ∧ 1 ≤ nup lt n T i ∧ nup lt n T i ≤ 99 := by
      by_cases hin : i = n
      · subst hin
        rw [nup_s, o15, pk_us]
        exact ⟨rfl, hT⟩
      · rw [nup_n hin, o15, pk_un hin]
        exact ⟨q.2.2.2.1, q.2.2.2.2.1, q.2.2.2.2.2.1⟩
    refine LpI_of (b := bk C 1) (j := i) (t := lt i) ?_ key.1 key.2 (fun k hk => ?_) (fun k hk => ?_) (fun k hk => ?_) q
    · show C2 14 i = _
      rw [on 14 (by decide) (by decide)]
      exact q.1
    · show C2 11 _ = C 11 _
      rw [on 11 (by decide) (by decide)]
    · show C2 12 _ = C 12 _
      rw [on 12 (by decide) (by decide)]
    · show C2 13 _ = C 13 _
      rw [on 13 (by decide) (by decide)]
theorem m_play {n : Nat} (hn : n < lc) (ho : op = 0) (hJ : JW C st) (hI : Inv (bk C 1) hd tc op lc tl ll lt) (hD : SC C D) : Ct G l yX6_play cX6_play 2 (some .int) 6 0 0 sz [.ref a, .int (nI n)] (B G a D) (Rm G a (pB C hd n (ll n) (lt n)).1.2.2.1 (fun C' => Psh C st C' ∧ Inv (bk C' 1) (pB C hd n (ll n) (lt n)).1.2.1 tc op lc tl ll lt ∧ C' 3 = (pB C hd n (ll n) (lt n)).1.1 ∧ C' 1 1 = C 1 1 + (pB C hd n (ll n) (lt n)).1.2.2.1 ∧ C' 1 3 = C 1 3 + 1 ∧ C' 1 4 = (pB C hd n (ll n) (lt n)).2)) := by
  obtain ⟨d1, d2, d3, d4, d5, d6, d7, d8, d9, d10, d11⟩ := fD hI hD
  obtain ⟨j1, j2, j3⟩ := fJ hJ hD
  obtain ⟨e1, e2, e3, e4, e5, e6⟩ := d11 n hn
  have hro := (iv_ro hI).2
  have e := pB_SC (hd := hd) (n := n) (len := ll n) (T := lt n) hD
  refine rm_p (congrArg (fun P : PS × Int32 => P.1.2.2.1) e) (tX6_play (lc := lc) (n := n) (st := st) (hd := hd) (size := ll n) (T := lt n) d6 d7 hn (op0 hI hD ho) d8 d9 e1 e3 e4 (by omega) j1 j2 j3) (fun C1 hP => ?_)
  have lo : ∀ i, i < 16 → C1 i = C i := fun i hi => (hP.1 i (Or.inl hi)).trans (hD.lo (by omega))
  have e' : plBody (shv D 10 12 n) (shn D 10 12 n) (sht D 10 12 n) (ll n) (lt n) 0 (D 3, hd, 0, 0) = pB C hd n (ll n) (lt n) := e
  rw [e']
  have hro2 : RO (pB C hd n (ll n) (lt n)).1.1 (pB C hd n (ll n) (lt n)).1.2.1 := plBody_RO (lt n) 0 (C 3, hd, 0, 0) hro
  generalize pB C hd n (ll n) (lt n) = P at hro2
  obtain ⟨C2, hC2⟩ : ∃ C2, C2 = plC C1 P := ⟨_, rfl⟩
  rw [← hC2]
  have o2 : C2 2 0 = nI P.1.2.1 := by rw [hC2]; unfold plC; rw [mset_n (by decide), plR_q (Or.inl (by decide)), pk_us]
  have o3 : C2 3 = P.1.1 := by rw [hC2]; unfold plC; rw [mset_n (by decide)]; exact plR_q1 (q := 2) (Or.inl (by decide))
  have o1 : C2 1 = upd (upd (upd (upd (C 1) 1 (C 1 1 + P.1.2.2.1)) 2 (C 1 2 + f2 P.2)) 3 (C 1 3 + 1)) 4 P.2 := by rw [hC2]; unfold plC; rw [mset_s, lo 1 (by decide)]
  have on : ∀ i, i ≠ 1 → i ≠ 2 → i ≠ 3 → i ≠ 101 → C2 i = C1 i := fun i h1 h2 h3 h4 => by rw [hC2]; unfold plC; rw [mset_n h1, plR_n h2 h3 h4]
  obtain ⟨r, tr, lp⟩ := hI
  refine ⟨SC_Psh hJ hD (Psh_of j2 hP (fun i h1 h2 => on i (by omega) (by omega) (by omega) (by omega))), ⟨⟨o2, hro2.1, fun j hj => ?_⟩, trs_eq ?_ (fun i h1 h2 => by rw [on i (by omega) (by omega) (by omega) (by omega), lo i (by omega)]) tr, lps_eq (fun i h1 h2 => by rw [on i (by omega) (by omega) (by omega) (by omega), lo i (by omega)]) lp⟩, o3, ?_, ?_, ?_⟩
  · show ∃ x, x < 100 ∧ C2 3 j = nI x
    rw [o3]
    exact hro2.2 j hj
  · rw [o1, pk_un (by decide), pk_un (by decide), pk_un (by decide), pk_un (by decide)]
  · rw [o1, pk_un (by decide), pk_un (by decide), pk_un (by decide), pk_us]
  · rw [o1, pk_un (by decide), pk_us]
  · rw [o1, pk_us]
theorem m_step {v : Int32} {m : Nat} (hv : 0 ≤ v ∧ v ≤ 5) (hm : m < 100) (hx : inR v (nI m)) (hf : ¬ (op = 1 ∧ tl tc = 12)) (hJ : JW C st) (hI : Inv (bk C 1) hd tc op lc tl ll lt) (hD : SC C D) : Ct G l yX6_step cX6_step 4 (some .int) 5 0 0 sz [.ref a, .int v, .int (nI m)] (B G a D) (Rm G a (if pStep (C 3) hd v m then (rowStep (C 3) hd v m).1 (rowStep (C 3) hd v m).2 else 100) (fun C' => Psh C st C' ∧ Inv (bk C' 1) (rowStep (C 3) hd v m).2 tc op lc (nup tl tc (tl tc + 1)) ll lt ∧ C' 3 = (rowStep (C 3) hd v m).1 ∧ C' 1 1 = C 1 1 + 1 ∧ C' 1 2 = C 1 2 + (if pStep (C 3) hd v m then 0 else 1) ∧ (op = 1 → C' 5 (tc * 12 + tl tc) = v ∧ C' 6 (tc * 12 + tl tc) = nI m))) := by
  obtain ⟨d1, d2, d3, d4, d5, d6, d7, d8, d9, d10, d11⟩ := fD hI hD
  obtain ⟨j1, j2, j3⟩ := fJ hJ hD
  have hro := (iv_ro hI).2
  have hl12 : op = 1 → tl tc < 12 := fun z => by
    have := (d10 tc (by omega)).2
    have : tl tc ≠ 12 := fun q => hf ⟨z, q⟩
    omega
  have hro2 := RO_step hro hx
  rw [nTN (n := m) (by omega)] at hro2
  refine rm_p (by rw [hD.lo (i := 3) (by decide)]) (tX6_step (tc := tc) (len := tl tc) (hd := hd) (st := st) v hv hm hx d3 (fun z => ⟨d5 (d4.mp z), (d10 tc (by have := d4.mp z; omega)).1, hl12 (d4.mp z)⟩) d1 d8 d9 j1 j2 j3) (fun C1 hP => ?_)
  have lo : ∀ i, i < 16 → C1 i = C i := fun i hi => (hP.1 i (Or.inl hi)).trans (hD.lo (by omega))
  obtain ⟨C2, hC2⟩ : ∃ C2, C2 = stC C1 tc (tl tc) hd v m := ⟨_, rfl⟩
  rw [← hC2]
  have on0 : ∀ i, (i < 4 ∨ 9 ≤ i) → C2 i = obC C1 hd v m i := by
    intro i h1
    rw [hC2]
    unfold stC
    split
    · exact apS_n (by omega) (by omega) (by omega) (by omega)
    · rfl
  have on : ∀ i, (i < 1 ∨ 9 ≤ i) → C2 i = C1 i := fun i h1 => by rw [on0 i (by omega), obC_n (by omega) (by omega) (by omega)]
  have o1 : C2 1 = upd (upd (C 1) 1 (C 1 1 + 1)) 2 (C 1 2 + (if pStep (C 3) hd v m then 0 else 1)) := by
    rw [on0 1 (by decide)]
    unfold obC
    rw [mset_s, lo 1 (by decide), lo 3 (by decide)]
  have o2 : C2 2 0 = nI (rowStep (C 3) hd v m).2 := by rw [on0 2 (by decide), obC_2, pk_us, lo 3 (by decide)]
  have o3 : C2 3 = (rowStep (C 3) hd v m).1 := by rw [on0 3 (by decide), obC_3, lo 3 (by decide)]
  have o4 : C2 4 = C 4 := by
    rw [hC2]
    unfold stC
    split
    · rw [apS_n (by decide) (by decide) (by decide) (by decide), obC_n (by decide) (by decide) (by decide), lo 4 (by decide)]
    · rw [obC_n (by decide) (by decide) (by decide), lo 4 (by decide)]
  have c10 : C1 1 0 = 1 ↔ op = 1 := by
    rw [lo 1 (by decide), ← hD.lo (i := 1) (by decide)]
    exact d4
  have h1 : op = 1 → C2 5 = upd (C 5) (tc * 12 + tl tc) v ∧ C2 6 = upd (C 6) (tc * 12 + tl tc) (nI m) ∧ C2 8 = upd (C 8) tc (nI (tl tc + 1)) := fun ho => by
    have e : C2 = apS (obC C1 hd v m) 4 12 tc (tl tc) v (nI m) 0 := by
      rw [hC2]
      unfold stC
      rw [if_pos ⟨c10.mpr ho, hl12 ho⟩]
    rw [e]
    unfold apS
    refine ⟨?_, ?_, ?_⟩
    · rw [mset_n (by decide), mset_n (by decide), mset_n (by decide), mset_s, obC_n (by decide) (by decide) (by decide), lo _ (by decide)]
    · rw [mset_n (by decide), mset_n (by decide), mset_s, obC_n (by decide) (by decide) (by decide), lo _ (by decide)]
    · rw [mset_s, obC_n (by decide) (by decide) (by decide), lo _ (by decide)]
  have h0 : op = 0 → ∀ i, 4 ≤ i → i < 9 → C2 i = C i := fun ho i q1 q2 => by
    have e : C2 = obC C1 hd v m := by
      rw [hC2]
      unfold stC
      rw [if_neg (fun z => by have := c10.mp z.1; omega)]
    rw [e, obC_n (by omega) (by omega) (by omega), lo i (by omega)]
  obtain ⟨r, ⟨t1, t2, t3, t4, t5, t6⟩, lp⟩ := hI
  refine ⟨SC_Psh hJ hD (Psh_of j2 hP (fun i q1 q2 => on i (by omega))), ⟨⟨o2, hro2.1, fun j hj => ?_⟩, ⟨?_, t2, ?_, t4, fun i hi => ?_, fun i hi => ?_⟩, lps_eq (fun i q1 q2 => by rw [on i (by omega), lo i (by omega)]) lp⟩, o3, ?_, ?_, fun ho => ?_⟩
  · show ∃ x, x < 100 ∧ C2 3 j = nI x
    rw [o3]
    exact hro2.2 j hj
  · show C2 4 0 = nI tc
    rw [o4]
    exact t1
  · show C2 1 0 = nI op
    rw [o1, pk_un (by decide), pk_un (by decide)]
    exact t3
  · have q := t5 i hi
    have q2 := q.2.1
    rcases t4 with ho | ⟨ho, -⟩
    · rw [nup_n (by omega)]
      refine TrI_of (b := bk C 1) (j := i) ?_ (fun k hk => ?_) (fun k hk => ?_) q
      · show C2 8 i = _
        rw [h0 ho 8 (by decide) (by decide)]
        exact q.1
      · show C2 5 _ = C 5 _
        rw [h0 ho 5 (by decide) (by decide)]
      · show C2 6 _ = C 6 _
        rw [h0 ho 6 (by decide) (by decide)]
    · obtain ⟨o5, o6, o8⟩ := h1 ho
      have hl := hl12 ho
      by_cases hit : i = tc
      · subst hit
        rw [nup_s]
        refine ⟨by show C2 8 i = _; rw [o8, pk_us], by omega, fun k hk => ?_⟩
        show verbI (C2 5 (i * 12 + k)) ∧ inR (C2 5 (i * 12 + k)) (C2 6 (i * 12 + k))
        rw [o5, o6]
        by_cases hkl : k = tl i
        · subst hkl
          rw [pk_us, pk_us]
          exact ⟨hv, hx⟩
        · rw [pk_un (by omega), pk_un (by omega)]
          exact q.2.2 k (by omega)
      · rw [nup_n hit]
        refine TrI_of (b := bk C 1) (j := i) ?_ (fun k hk => ?_) (fun k hk => ?_) q
        · show C2 8 i = _
          rw [o8, pk_un hit]
          exact q.1
        · show C2 5 _ = C 5 _
          rw [o5, pk_un (by omega)]
        · show C2 6 _ = C 6 _
          rw [o6, pk_un (by omega)]
  · rw [nup_n (by omega)]
    exact t6 i hi
  · rw [o1, pk_un (by decide), pk_us]
  · rw [o1, pk_us]
  · obtain ⟨o5, o6, o8⟩ := h1 ho
    rw [o5, o6, pk_us, pk_us]
    exact ⟨rfl, rfl⟩
end MUT
