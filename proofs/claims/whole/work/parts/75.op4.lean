/-! The calls on both sides: play, generalise, fold. -/
theorem nlB_at {z : Nat → Int32} {at_ n i : Nat} : ∀ {k : Nat}, i < k → nlB z at_ n k (at_ + 2 + 3 * i) = z (38 + 25 * n + 1 + 2 * i) ∧ nlB z at_ n k (at_ + 3 + 3 * i) = z (38 + 25 * n + 2 + 2 * i) := by
  intro k
  induction k with
  | zero => intro h; omega
  | succ k ih =>
    intro h
    show upd (upd (nlB z at_ n k) _ _) _ _ _ = _ ∧ upd (upd (nlB z at_ n k) _ _) _ _ _ = _
    by_cases hk : i = k
    · subst hk
      refine ⟨?_, pk_us⟩
      rw [pk_un (by omega), pk_us]
    · obtain ⟨h1, h2⟩ := ih (by omega)
      refine ⟨?_, ?_⟩
      · rw [pk_un (by omega), pk_un (by omega), h1]
      · rw [pk_un (by omega), pk_un (by omega), h2]
theorem stB_at {z : Nat → Int32} {at_ i : Nat} {g : Nat → Int32} : ∀ {k : Nat}, i < k → stB z at_ g k (at_ + 4 + 3 * i) = g i := by
  intro k
  induction k with
  | zero => intro h; omega
  | succ k ih =>
    intro h
    show upd (stB z at_ g k) _ _ _ = _
    by_cases hk : i = k
    · subst hk
      exact pk_us
    · rw [pk_un (by omega)]
      exact ih (by omega)
/-- the row with one loop more -/
def zLp (z : Nat → Int32) (lc n s : Nat) (t : Int32) (g : Nat → Int32) : Nat → Int32 := stB (zNL z lc n s t) (213 + 38 * lc) g s
theorem zLp_o {z g : Nat → Int32} {lc n s j : Nat} {t : Int32} (h : j < 213 + 38 * lc) (h2 : j ≠ 33) : zLp z lc n s t g j = z j := by
  unfold zLp zNL
  rw [stB_o (fun i _ => by omega), pk_un h2, nlB_o (Or.inl (by omega)), pk_un (by omega), pk_un (by omega)]
theorem zLp_33 {z g : Nat → Int32} {lc n s : Nat} {t : Int32} : zLp z lc n s t g 33 = nI (lc + 1) := by
  unfold zLp zNL
  rw [stB_o (fun i _ => by omega), pk_us]
theorem zLp_s {z g : Nat → Int32} {lc n s : Nat} {t : Int32} : zLp z lc n s t g (213 + 38 * lc) = nI s ∧ zLp z lc n s t g (214 + 38 * lc) = t := by
  unfold zLp zNL
  refine ⟨?_, ?_⟩
  · rw [stB_o (fun i _ => by omega), pk_un (by omega), nlB_o (Or.inl (by omega)), pk_un (by omega), pk_us]
  · rw [stB_o (fun i _ => by omega), pk_un (by omega), nlB_o (Or.inl (by omega)), show 214 + 38 * lc = 213 + 38 * lc + 1 by omega, pk_us]
theorem zLp_k {z g : Nat → Int32} {lc n s k : Nat} {t : Int32} (hn : n < 7) (hs : s ≤ 12) (hk : k < s) : lvM (zLp z lc n s t g) lc k = z (38 + 25 * n + 1 + 2 * k) ∧ lnM (zLp z lc n s t g) lc k = z (38 + 25 * n + 2 + 2 * k) ∧ lsM (zLp z lc n s t g) lc k = g k := by
  unfold lvM lnM lsM zLp zNL
  refine ⟨?_, ?_, stB_at hk⟩
  · rw [stB_o (fun i _ => by omega), pk_un (by omega), (nlB_at hk).1, pk_un (by omega), pk_un (by omega)]
  · rw [stB_o (fun i _ => by omega), pk_un (by omega), (nlB_at hk).2, pk_un (by omega), pk_un (by omega)]
section CLS
variable {G : GT} {l : Launch} {sz a : Nat} {C : CT}
theorem mlC_n {lc i j off size q : Nat} {t : Int32} (h : q < 10 ∨ 15 < q) : mlC C lc i j off size t q = C q := by
  unfold mlC mkC
  rw [mset_n (by omega), mset_n (by omega), mset_n (by omega), mset_n (by omega), mset_n (by omega), mset_n (by omega)]
/-- one loop more on both sides -/
theorem stR_loop {C C1 : CT} {z g : Nat → Int32} {lc i j off size m T : Nat} (hs : stR C 1 z) (lo : ∀ i, i < 16 → C1 i = C i) (hlc : lc < 6) (h10 : C 10 0 = nI lc) (hi : i < 7) (htr : trR (bk C 1) z i m) (hsm : size ≤ m) (hm : m ≤ 12) (h1 : 1 ≤ size) (hT : 1 ≤ T ∧ T ≤ 99) (hg : ∀ k, k < size → g k = C 6 (j * 12 + (off + k)) - C 6 (i * 12 + k)) : stR (mlC C1 lc i j off size (nI T)) 1 (zLp z lc i size (nI T) g) := by
  obtain ⟨C2, hC2⟩ : ∃ C2, C2 = mlC C1 lc i j off size (nI T) := ⟨_, rfl⟩
  have on : ∀ q, (q < 10 ∨ 15 < q) → C2 q = C1 q := fun q hq => by rw [hC2, mlC_n hq]
  have o10 : C2 10 0 = nI (lc + 1) := by rw [hC2]; unfold mlC; rw [mset_s, pk_us]
  have o11 : C2 11 = fil (C 11) (lc * 12) (vT C1 i) size := by rw [hC2]; unfold mlC mkC; rw [mset_n (by decide), mset_n (by decide), mset_n (by decide), mset_n (by decide), mset_n (by decide), mset_s, lo 11 (by decide)]
  have o12 : C2 12 = fil (C 12) (lc * 12) (nT C1 i) size := by rw [hC2]; unfold mlC mkC; rw [mset_n (by decide), mset_n (by decide), mset_n (by decide), mset_n (by decide), mset_s, lo 12 (by decide)]
  have o13 : C2 13 = fil (C 13) (lc * 12) (fun k => nT C1 j (off + k) - nT C1 i k) size := by rw [hC2]; unfold mlC mkC; rw [mset_n (by decide), mset_n (by decide), mset_n (by decide), mset_s, lo 13 (by decide)]
  have o14 : C2 14 = upd (C 14) lc (nI size) := by rw [hC2]; unfold mlC mkC; rw [mset_n (by decide), mset_n (by decide), mset_s, lo 14 (by decide)]
  have o15 : C2 15 = upd (C 15) lc (nI T) := by rw [hC2]; unfold mlC mkC; rw [mset_n (by decide), mset_s, lo 15 (by decide)]
  rw [← hC2]
  obtain ⟨hd, tc, op, lc', b1, b2, b3, b4, b5, b6, b7, b8, b9, c1, c2, c3, c4, c5, c6, c7⟩ := stR_ex hs
  obtain rfl : lc' = lc := by
    rw [c4] at h10
    exact (neq (by omega) (by omega)).mp h10
  obtain ⟨r1, -, -⟩ := hs
  refine ⟨RoR_eq (fun j q1 q2 => by rw [on 1 (by decide), lo 1 (by decide)]) (by rw [on 2 (by decide), lo 2 (by decide)]) (by rw [on 3 (by decide), lo 3 (by decide)]) (fun j hj => zLp_o (by omega) (by omega)) (fun j q1 q2 => zLp_o (by omega) (by omega)) r1, ⟨tc, op, TrsR_eq (by rw [on 1 (by decide), lo 1 (by decide)]) (fun i q1 q2 => by rw [on i (by omega), lo i (by omega)]) (fun j q1 q2 => zLp_o (by omega) (by omega)) (fun j q1 q2 => zLp_o (by omega) (by omega)) ⟨b6, b7, b8, b9, c1, c2, c6⟩⟩, lc' + 1, by omega, o10, zLp_33, fun q hq => ?_⟩
  by_cases hql : q = lc'
  · subst hql
    refine ⟨size, T, h1, by omega, hT.1, hT.2, ?_, zLp_s.1, ?_, zLp_s.2, fun k hk => ?_⟩
    · show C2 14 q = nI size
      rw [o14, pk_us]
    · show C2 15 q = nI T
      rw [o15, pk_us]
    · obtain ⟨k1, k2, k3⟩ := zLp_k (z := z) (g := g) (lc := q) (n := i) (s := size) (k := k) (t := nI T) hi (by omega) hk
      obtain ⟨t1, t2, t3⟩ := (trR_ex htr).2.2 k (by omega)
      show _ = C2 11 (q * 12 + k) ∧ _ = C2 12 (q * 12 + k) ∧ _ = C2 13 (q * 12 + k) ∧ verbOK (C2 11 (q * 12 + k))
      rw [k1, k2, k3, o11, o12, o13, fil_at hk, fil_at hk, fil_at hk, hg k hk, t1, t2]
      show _ = C1 5 (i * 12 + k) ∧ _ = C1 6 (i * 12 + k) ∧ _ = C1 6 (j * 12 + (off + k)) - C1 6 (i * 12 + k) ∧ verbOK (C1 5 (i * 12 + k))
      rw [lo 5 (by decide), lo 6 (by decide)]
      exact ⟨rfl, rfl, rfl, t3⟩
  · obtain ⟨w, t, m1, m2, m3, m4, m5⟩ := c7 q (by omega)
    refine ⟨w, t, m1, m2, m3, m4, lpR_cg m2 ?_ ?_ (fun k hk => ?_) (fun k hk => ?_) (fun k hk => ?_) (fun j hj => zLp_o (by omega) (by omega)) m5⟩
    · show C2 14 q = C 14 q
      rw [o14, pk_un hql]
    · show C2 15 q = C 15 q
      rw [o15, pk_un hql]
    · show C2 11 _ = C 11 _
      rw [o11, fil_out (by omega)]
    · show C2 12 _ = C 12 _
      rw [o12, fil_out (by omega)]
    · show C2 13 _ = C 13 _
      rw [o13, fil_out (by omega)]
theorem lik_iff {C : CT} {z : Nat → Int32} {i j li lj : Nat} (hi : trR (bk C 1) z i li) (hj : trR (bk C 1) z j lj) : likC C i j li lj ↔ likeU z i j li lj li := by
  obtain ⟨-, -, h1⟩ := trR_ex hi
  obtain ⟨-, -, h2⟩ := trR_ex hj
  constructor
  · rintro ⟨rfl, h⟩
    exact ⟨rfl, fun m hm => by rw [(h1 m hm).1, (h2 m hm).1]; exact h m hm⟩
  · rintro ⟨rfl, h⟩
    exact ⟨rfl, fun m hm => by have := h m hm; rw [(h1 m hm).1, (h2 m hm).1] at this; exact this⟩
theorem op_generalise (x1 x2 : Int32) (hJ : JE C) : ∃ v : Int32, Ct G l yX6_generalise cX6_generalise 3 (some .int) 5 0 0 sz [.ref a, .int x1, .int x2] (B G a C) (Rx G a v (fun C' => Ct G l yX7_generalise cX7_generalise 5 (some .int) 2 0 0 sz [.ref (a + 105), .int x1, .int x2] (B G a C') (Rx G a v JE))) := by
  obtain ⟨st, n0, hJ⟩ := hJ
  obtain ⟨a1, a2, a3, a4, a5, -⟩ := id hJ
  obtain ⟨hd, tc, op, lc, b1, b2, b3, b4, b5, b6, b7, b8, b9, c1, c2, c3, c4, c5, c6, c7⟩ := stR_ex a5
  by_cases hx : isIx x1 tc ∧ isIx x2 tc
  · obtain ⟨hx1, hx2⟩ := hx
    obtain ⟨i, hi, rfl⟩ := ix_ex hx1
    obtain ⟨j, hj, rfl⟩ := ix_ex hx2
    obtain ⟨li, i1, i2, i3⟩ := c6 i (by omega)
    obtain ⟨lj, j1, j2, j3⟩ := c6 j (by omega)
    obtain ⟨ti1, ti2, ti3⟩ := trR_ex i3
    obtain ⟨tj1, tj2, tj3⟩ := trR_ex j3
    have hlk := lik_iff i3 j3
    have hm := fun (D : CT) (h6 : D 106 = C 106) (h5 : D 105 = C 105) => tX7_generalise (G := G) (l := l) (sz := sz) (a := a) (C := D) (st := st) (tc := tc) (lc := lc) (i := i) (j := j) (li := li) (lj := lj) a1 (by rw [h5]; exact a4) (by rw [h6]; exact b9) b6 (by rw [h6]; exact c5) c3 hi hj (by rw [h6]; exact ti2) (by rw [h6]; exact tj2) i1 j1
    by_cases hn : i ≠ j ∧ likC C i j li lj
    · have hn' : i ≠ j ∧ likeU (C 106) i j li lj li := ⟨hn.1, hlk.mp hn.2⟩
      by_cases h6 : lc = 6
      · refine ⟨-3, Rx_w (tX6_generalise_f b8 b6 hi hj ti1 tj1 i1 j1 hn (by rw [c4, h6]; rfl)) ?_⟩
        have m1 := hm C rfl rfl
        rw [if_neg (fun z => z hn'), if_pos h6, if_neg (show ¬ ¬ (i ≠ j ∧ likeU (C 106) i j li lj li) from fun z => z hn'), if_pos h6] at m1
        exact Rx_w m1 ⟨st, n0, hJ⟩
      · refine ⟨nI lc, Rx_p (tX6_generalise b8 b6 hi hj ti1 tj1 i1 j1 hn c4 (by omega) a2 a1 a3 (stR_op a5)) (fun C1 hP => ?_)⟩
        have hP1 := hP.1
        have lo : ∀ i, i < 16 → C1 i = C i := fun i hi => hP1 i (Or.inl hi)
        have hi78 : ∀ i, 78 ≤ i → C1 i = C i := fun i hi => hP1 i (Or.inr hi)
        obtain ⟨hll, hlik⟩ := hn.2
        subst hll
        have hst := stR_loop (C := C) (C1 := C1) (z := C 106) (g := fun k => C 106 (38 + 25 * j + 2 + 2 * k) - C 106 (38 + 25 * i + 2 + 2 * k)) (lc := lc) (i := i) (j := j) (off := 0) (size := li) (m := li) (T := 2) a5 lo (by omega) c4 (by omega) i3 (Nat.le_refl _) i1 (i2 hi) (by decide) (fun k hk => by rw [(tj3 k hk).2.1, (ti3 k hk).2.1, Nat.zero_add])
        have e106 : mlC C1 lc i j 0 li 2 106 = C 106 := by rw [mlC_n (by decide), hi78 106 (by decide)]
        have e105 : mlC C1 lc i j 0 li 2 105 = C 105 := by rw [mlC_n (by decide), hi78 105 (by decide)]
        have m1 := hm (mlC C1 lc i j 0 li 2) e106 e105
        rw [e106, if_neg (fun z => z hn'), if_neg h6, if_neg (show ¬ ¬ (i ≠ j ∧ likeU (C 106) i j li li li) from fun z => z hn'), if_neg h6] at m1
        exact Rx_w m1 (JE_push hJ hP (fun i q1 q2 q3 => mlC_n (by omega)) (mlC_n (by decide)) (mlC_n (by decide)) (fun i hi2 => by rw [mlC_n (by omega), hi78 i (by omega)]) hst)
    · have hn' : ¬ (i ≠ j ∧ likeU (C 106) i j li lj li) := fun z => hn ⟨z.1, hlk.mpr z.2⟩
      refine ⟨-4, Rx_w (tX6_generalise_n b8 b6 hi hj ti1 tj1 i1 j1 hn) ?_⟩
      have m1 := hm C rfl rfl
      rw [if_pos hn', if_pos hn'] at m1
      exact Rx_w m1 ⟨st, n0, hJ⟩
  · exact ⟨-1, Rx_w (tX6_generalise_o x1 x2 b8 b6 hx) (Rx_w (tX7_generalise_o x1 x2 b9 b6 hx) ⟨st, n0, hJ⟩)⟩
theorem fold_iff {C : CT} {z : Nat → Int32} {n len s : Nat} (hs : 1 ≤ s) (ht : trR (bk C 1) z n len) : okP C n len s ↔ foldU z n len s len := by
  obtain ⟨-, -, h⟩ := trR_ex ht
  constructor
  · rintro ⟨h1, h2, h3⟩
    refine ⟨h1, h2, ?_⟩
    have key : ∀ m, m < len → s ≤ m → z (38 + 25 * n + 2 + 2 * m) - z (38 + 25 * n + 2 + 2 * (m - s)) = z (38 + 25 * n + 2 + 2 * (m % s + s)) - z (38 + 25 * n + 2 + 2 * (m % s)) := by
      intro m
      induction m using Nat.strongRecOn with
      | _ m ih =>
        intro hm hsm
        by_cases h2s : 2 * s ≤ m
        · have e1 := (h3 m hm hsm).2 h2s
          have e2 := ih (m - s) (by omega) (by omega) (by omega)
          have e3 : (m - s) % s = m % s := by rw [← Nat.mod_eq_sub_mod (by omega)]
          rw [e3] at e2
          rw [(h m hm).2.1, (h (m - s) (by omega)).2.1]
          rw [(h (m - s) (by omega)).2.1, (h (m - s - s) (by omega)).2.1] at e2
          rw [← e2]
          exact e1
        · have e3 : m % s = m - s := by rw [Nat.mod_eq_sub_mod hsm, Nat.mod_eq_of_lt (by omega)]
          rw [e3, show m - s + s = m by omega]
    intro m hm hsm
    exact ⟨by rw [(h m hm).1, (h (m - s) (by omega)).1]; exact (h3 m hm hsm).1, key m hm hsm⟩
  · rintro ⟨h1, h2, h3⟩
    refine ⟨h1, h2, fun m hm hsm => ⟨?_, fun h2s => ?_⟩⟩
    · have := (h3 m hm hsm).1
      rw [(h m hm).1, (h (m - s) (by omega)).1] at this
      exact this
    · have e1 := (h3 m hm hsm).2
      have e2 := (h3 (m - s) (by omega) (by omega)).2
      have e3 : (m - s) % s = m % s := by rw [← Nat.mod_eq_sub_mod (by omega)]
      rw [e3] at e2
      rw [← e2] at e1
      rw [(h m hm).2.1, (h (m - s) (by omega)).2.1, (h (m - s - s) (by omega)).2.1] at e1
      exact e1
theorem op_fold (x1 : Int32) (hJ : JE C) : ∃ v : Int32, Ct G l yX6_fold cX6_fold 3 (some .int) 5 0 0 sz [.ref a, .int x1] (B G a C) (Rx G a v (fun C' => Ct G l yX7_fold cX7_fold 5 (some .int) 2 0 0 sz [.ref (a + 105), .int x1] (B G a C') (Rx G a v JE))) := by
  obtain ⟨st, n0, hJ⟩ := hJ
  obtain ⟨a1, a2, a3, a4, a5, -⟩ := id hJ
  obtain ⟨hd, tc, op, lc, b1, b2, b3, b4, b5, b6, b7, b8, b9, c1, c2, c3, c4, c5, c6, c7⟩ := stR_ex a5
  by_cases hx : isIx x1 tc
  · obtain ⟨n, hn, rfl⟩ := ix_ex hx
    obtain ⟨len, i1, i2, i3⟩ := c6 n (by omega)
    obtain ⟨ti1, ti2, ti3⟩ := trR_ex i3
    have hc := tX6_fold (G := G) (l := l) (sz := sz) (a := a) (C := C) (tc := tc) (lc := lc) (st := st) (n := n) (len := len) b8 b6 hn ti1 i1 c4 c3 a2 a1 a3 (stR_op a5)
    have hm := fun (D : CT) (h6 : D 106 = C 106) (h5 : D 105 = C 105) (s : Nat) (hs1 : 1 ≤ s) (hs2 : s ≤ 13) (hs3 : s < 13 → foldU (C 106) n len s len) (hs4 : ∀ s', 1 ≤ s' → s' < s → ¬ foldU (C 106) n len s' len) => tX7_fold (G := G) (l := l) (sz := sz) (a := a) (C := D) (st := st) (tc := tc) (lc := lc) (n := n) (len := len) (s := s) a1 (by rw [h5]; exact a4) (by rw [h6]; exact b9) b6 (by rw [h6]; exact c5) c3 hn (by rw [h6]; exact ti2) i1 hs1 hs2 (by rw [h6]; exact hs3) (by rw [h6]; exact hs4)
    obtain ⟨s, s1, s2, s3⟩ : ∃ s, (∀ s', 1 ≤ s' → s' < s → ¬ okP C n len s') ∧ (s = 0 → ∀ s', 1 ≤ s' → ¬ okP C n len s') ∧ (0 < s → okP C n len s) := by
      by_cases h : ∃ s, 1 ≤ s ∧ okP C n len s
      · have hex : ∃ s, (1 ≤ s ∧ okP C n len s) ∧ ∀ s', 1 ≤ s' → s' < s → ¬ okP C n len s' := by
          obtain ⟨s, hs⟩ := h
          induction s using Nat.strongRecOn with
          | _ s ih =>
            by_cases h2 : ∃ s', s' < s ∧ 1 ≤ s' ∧ okP C n len s'
            · obtain ⟨s', q1, q2⟩ := h2
              exact ih s' q1 q2
            · exact ⟨s, hs, fun s' q1 q2 q3 => h2 ⟨s', q2, q1, q3⟩⟩
        obtain ⟨s, q1, q2⟩ := hex
        exact ⟨s, q2, fun z => by omega, fun _ => q1.2⟩
      · exact ⟨0, fun s' q1 q2 => by omega, fun _ s' q1 q2 => h ⟨s', q1, q2⟩, fun z => by omega⟩
    have uniq : ∀ s', (∀ w, 1 ≤ w → w < s' → ¬ okP C n len w) → (s' = 0 → ∀ w, 1 ≤ w → ¬ okP C n len w) → (0 < s' → okP C n len s') → s' = s := by
      intro s' q1 q2 q3
      by_cases h0 : s = 0
      · by_cases h0' : s' = 0
        · omega
        · exact absurd (q3 (by omega)) (s2 h0 s' (by omega))
      · by_cases h0' : s' = 0
        · exact absurd (s3 (by omega)) (q2 h0' s (by omega))
        · rcases Nat.lt_trichotomy s' s with z | z | z
          · exact absurd (q3 (by omega)) (s1 s' (by omega) z)
          · exact z
          · exact absurd (s3 (by omega)) (q1 s (by omega) z)
    by_cases h0 : s = 0
    · refine ⟨-4, hc.weaken (fun r h' q => ?_)⟩
      obtain ⟨s', q1, q2, q3, q4⟩ := q
      have := uniq s' q1 q2 q3
      subst this
      rw [if_pos h0] at q4
      refine ⟨C, q4.1, q4.2, ?_⟩
      have m1 := hm C rfl rfl 13 (by decide) (by decide) (fun z => by omega) (fun w w1 w2 z => s2 h0 w w1 ((fold_iff w1 i3).mpr z))
      rw [if_pos rfl, if_pos rfl] at m1
      exact Rx_w m1 ⟨st, n0, hJ⟩
    · have hok := s3 (by omega)
      obtain ⟨ho1, ho2, ho3⟩ := hok
      have hmm := fun (D : CT) (h6 : D 106 = C 106) (h5 : D 105 = C 105) => hm D h6 h5 s (by omega) (by omega) (fun _ => (fold_iff (by omega) i3).mp ⟨ho1, ho2, ho3⟩) (fun w w1 w2 z => s1 w w1 w2 ((fold_iff w1 i3).mpr z))
      have hs13 : ¬ s = 13 := by omega
      by_cases h6 : lc = 6
      · refine ⟨-3, hc.weaken (fun r h' q => ?_)⟩
        obtain ⟨s', q1, q2, q3, q4⟩ := q
        have := uniq s' q1 q2 q3
        subst this
        rw [if_neg h0, if_pos h6] at q4
        refine ⟨C, q4.1, q4.2, ?_⟩
        have m1 := hmm C rfl rfl
        rw [if_neg hs13, if_neg hs13, if_pos h6, if_pos h6] at m1
        exact Rx_w m1 ⟨st, n0, hJ⟩
      · refine ⟨nI lc, hc.weaken (fun r h' q => ?_)⟩
        obtain ⟨s', q1, q2, q3, q4⟩ := q
        have := uniq s' q1 q2 q3
        subst this
        rw [if_neg h0, if_neg h6] at q4
        obtain ⟨C1, p1, p2, hP⟩ := q4
        refine ⟨_, p1, p2, ?_⟩
        have hP1 := hP.1
        have lo : ∀ i, i < 16 → C1 i = C i := fun i hi => hP1 i (Or.inl hi)
        have hi78 : ∀ i, 78 ≤ i → C1 i = C i := fun i hi => hP1 i (Or.inr hi)
        have hq1 : 1 ≤ len / s' := Nat.div_pos (by omega) (by omega)
        have hq2 : len / s' ≤ len := Nat.div_le_self _ _
        have hst := stR_loop (C := C) (C1 := C1) (z := C 106) (g := fun k => C 106 (38 + 25 * n + 2 + 2 * (k + s')) - C 106 (38 + 25 * n + 2 + 2 * k)) (lc := lc) (i := n) (j := n) (off := s') (size := s') (m := len) (T := len / s') a5 lo (by omega) c4 (by omega) i3 (by omega) i1 (by omega) ⟨hq1, by omega⟩ (fun k hk => by
          show C 106 (38 + 25 * n + 2 + 2 * (k + s')) - C 106 (38 + 25 * n + 2 + 2 * k) = _
          rw [(ti3 (k + s') (by omega)).2.1, (ti3 k (by omega)).2.1, Nat.add_comm k s'])
        have e106 : mlC C1 lc n n s' s' (nI (len / s')) 106 = C 106 := by rw [mlC_n (by decide), hi78 106 (by decide)]
        have e105 : mlC C1 lc n n s' s' (nI (len / s')) 105 = C 105 := by rw [mlC_n (by decide), hi78 105 (by decide)]
        have m1 := hmm (mlC C1 lc n n s' s' (nI (len / s'))) e106 e105
        rw [e106, if_neg hs13, if_neg hs13, if_neg h6, if_neg h6] at m1
        exact Rx_w m1 (JE_push hJ hP (fun i q1 q2 q3 => mlC_n (by omega)) (mlC_n (by decide)) (mlC_n (by decide)) (fun i hi2 => by rw [mlC_n (by omega), hi78 i (by omega)]) hst)
  · exact ⟨-1, Rx_w (tX6_fold_o x1 b8 b6 hx) (Rx_w (tX7_fold_o x1 b9 b6 hx) ⟨st, n0, hJ⟩)⟩
theorem plC_c {P : PS × Int32} : plC C P 1 = upd (upd (upd (upd (C 1) 1 (C 1 1 + P.1.2.2.1)) 2 (C 1 2 + f2 P.2)) 3 (C 1 3 + 1)) 4 P.2 := by unfold plC; rw [mset_s]
theorem op_play (x1 : Int32) (hJ : JE C) : ∃ v : Int32, Ct G l yX6_play cX6_play 2 (some .int) 6 0 0 sz [.ref a, .int x1] (B G a C) (Rx G a v (fun C' => Ct G l yX7_play cX7_play 3 (some .int) 4 0 0 sz [.ref (a + 105), .int x1] (B G a C') (Rx G a v JE))) := by
  obtain ⟨st, n0, hJ⟩ := hJ
  obtain ⟨a1, a2, a3, a4, a5, -⟩ := id hJ
  obtain ⟨hd, tc, op, lc, b1, b2, b3, b4, b5, b6, b7, b8, b9, c1, c2, c3, c4, c5, c6, c7⟩ := stR_ex a5
  by_cases hx : isIx x1 lc
  · obtain ⟨n, hn, rfl⟩ := ix_ex hx
    rcases b7 with b7 | ⟨b7, b7'⟩
    · subst b7
      obtain ⟨len, T, m1, m2, m3, m4, m5⟩ := c7 n hn
      obtain ⟨l1, l2, l3, l4, l5⟩ := lpR_ex m5
      obtain ⟨P, hP0⟩ : ∃ P, P = plBody (shv C 10 12 n) (shn C 10 12 n) (sht C 10 12 n) len T 0 (C 3, hd, 0, 0) := ⟨_, rfl⟩
      have hPm : plM (C 106) n len T (C 3, hd, 0, 0) = P := by
        rw [hP0]
        exact plBody_congr (fun k hk => ⟨(l5 k hk).1, (l5 k hk).2.1, (l5 k hk).2.2.1⟩) _ _ _
      have hh : P.1.2.1 < 30 := by rw [hP0]; exact plBody_hd _ _ _ b1
      have hc := tX6_play (G := G) (l := l) (sz := sz) (a := a) (C := C) (lc := lc) (n := n) (st := st) (hd := hd) (size := len) (T := T) c4 c3 hn c1 b2 b1 l1 m2 l3 (by omega) a2 a1 a3
      rw [← hP0] at hc
      refine ⟨P.1.2.2.1, Rx_p hc (fun C1 hP => ?_)⟩
      have hP1 := hP.1
      have lo : ∀ i, i < 16 → C1 i = C i := fun i hi => hP1 i (Or.inl hi)
      have hi : ∀ i, 78 ≤ i → C1 i = C i := fun i hi => hP1 i (Or.inr hi)
      obtain ⟨C2, hC2⟩ : ∃ C2, C2 = plC C1 P := ⟨_, rfl⟩
      have on : ∀ i, i ≠ 1 → i ≠ 2 → i ≠ 3 → i ≠ 101 → C2 i = C1 i := fun i q1 q2 q3 q4 => by rw [hC2]; unfold plC; rw [mset_n q1, plR_n q2 q3 q4]
      have o1 : C2 1 = upd (upd (upd (upd (C 1) 1 (C 1 1 + P.1.2.2.1)) 2 (C 1 2 + f2 P.2)) 3 (C 1 3 + 1)) 4 P.2 := by rw [hC2, plC_c, lo 1 (by decide)]
      have o2 : C2 2 0 = nI P.1.2.1 := by rw [hC2]; unfold plC; rw [mset_n (by decide), plR_q (by decide), pk_us]
      have o3 : C2 3 = P.1.1 := by rw [hC2]; unfold plC; rw [mset_n (by decide)]; exact plR_q1 (q := 2) (by decide)
      rw [← hC2]
      have e106 : C2 106 = C 106 := by rw [on 106 (by decide) (by decide) (by decide) (by decide), hi 106 (by decide)]
      have e105 : C2 105 = C 105 := by rw [on 105 (by decide) (by decide) (by decide) (by decide), hi 105 (by decide)]
      have m1' := tX7_play (G := G) (l := l) (sz := sz) (a := a) (C := C2) (st := st) (lc := lc) (n := n) (len := len) (T := T) (hd := hd) (c := C 3) a1 (by rw [e105]; exact a4) (by rw [e106]; exact c5) c3 hn (by rw [e106, c2]; decide) (by rw [e106]; exact l2) m2 (by rw [e106]; exact l4) (by omega) (by rw [e106]; exact b4) (by rw [e106]; exact b3) b1
      rw [e106, hPm] at m1'
      refine Rx_s m1' (fun D hD => JE_SC hD (JE_push hJ hP (fun i q1 q2 q3 => on i (by omega) (by omega) (by omega) (by omega)) (on 93 (by decide) (by decide) (by decide) (by decide)) (on 0 (by decide) (by decide) (by decide) (by decide)) (fun i hi2 => by rw [on i (by omega) (by omega) (by omega) (by omega), hi i (by omega)]) ⟨RoR_mk hh o2 ?_ (fun j hj => ?_) (lt4 ?_ ?_ ?_ ?_), ⟨tc, 0, ?_⟩, lc, ?_⟩))
      · unfold zPl
        rw [pk_un (by decide), pk_un (by decide), zPS_30]
      · unfold zPl
        rw [pk_un (by omega), pk_un (by omega), zPS_c hj, o3]
      · unfold zPl
        rw [pk_un (by decide), pk_un (by decide), zPS_34, o1, pk_un (by decide), pk_un (by decide), pk_un (by decide), pk_us]
        exact congrArg (· + _) (b5 0 (by decide))
      · unfold zPl
        rw [pk_un (by decide), pk_un (by decide), zPS_35, o1, pk_un (by decide), pk_un (by decide), pk_us, Int32.zero_add]
        exact congrArg (· + _) (b5 1 (by decide))
      · unfold zPl
        rw [pk_un (by decide), pk_us, o1, pk_un (by decide), pk_us]
        exact congrArg (· + _) (b5 2 (by decide))
      · unfold zPl
        rw [pk_us, o1, pk_us]
      · have zn : ∀ j, 30 < j → j ≠ 34 → j ≠ 35 → j ≠ 36 → j ≠ 37 → zPl (C 106) P 0 j = C 106 j := by
          intro j q1 q2 q3 q4 q5
          unfold zPl
          rw [pk_un q5, pk_un q4, zPS_n j q1 q2 q3]
        exact TrsR_eq (by rw [o1, pk_un (by decide), pk_un (by decide), pk_un (by decide), pk_un (by decide)]) (fun i q1 q2 => by rw [on i (by omega) (by omega) (by omega) (by omega), lo i (by omega)]) (fun j q1 q2 => zn j (by omega) (by omega) (by omega) (by omega) (by omega)) (fun j q1 q2 => zn j (by omega) (by omega) (by omega) (by omega) (by omega)) ⟨b6, Or.inl rfl, b8, b9, c1, c2, c6⟩
      · have zn : ∀ j, 30 < j → j ≠ 34 → j ≠ 35 → j ≠ 36 → j ≠ 37 → zPl (C 106) P 0 j = C 106 j := by
          intro j q1 q2 q3 q4 q5
          unfold zPl
          rw [pk_un q5, pk_un q4, zPS_n j q1 q2 q3]
        exact LpsR_eq (fun i q1 q2 => by rw [on i (by omega) (by omega) (by omega) (by omega), lo i (by omega)]) (zn 33 (by omega) (by omega) (by omega) (by omega) (by omega)) (fun j q1 q2 => zn j (by omega) (by omega) (by omega) (by omega) (by omega)) ⟨c3, c4, c5, c7⟩
    · subst b7
      exact ⟨-4, Rx_w (tX6_play_o c4 c3 hn c1) (Rx_w (tX7_play_n c5 c3 hn c2) ⟨st, n0, hJ⟩)⟩
  · exact ⟨-1, Rx_w (tX6_play_x x1 c4 c3 hx) (Rx_w (tX7_play_o x1 c5 c3 hx) ⟨st, n0, hJ⟩)⟩
end CLS
