/-! The class's changes: generalise, fold, keep, restore, undo. -/
section MUT
variable {G : GT} {l : Launch} {sz a st hd tc op lc : Nat} {tl ll lt : Nat → Nat} {C D : CT}
theorem mlC_n {C : CT} {lc i j off size q : Nat} {t : Int32} (h : q < 10 ∨ 15 < q) : mlC C lc i j off size t q = C q := by
  unfold mlC mkC
  rw [mset_n (by omega), mset_n (by omega), mset_n (by omega), mset_n (by omega), mset_n (by omega), mset_n (by omega)]
theorem strI_sub {v x y : Int32} (hx : inR v x) (hy : inR v y) : strI (x - y) := by
  obtain ⟨X, g, rfl, hg, hX, hg2, -⟩ := inR_ex hx
  obtain ⟨Y, g', rfl, hg', hY, hg2', -⟩ := inR_ex hy
  unfold strI
  rw [pk_sub_toInt (by omega) (by omega)]
  omega
/-- one loop more -/
theorem Inv_loop {C1 : CT} {i j off size T : Nat} (hI : Inv (bk C 1) hd tc op lc tl ll lt) (lo : ∀ i, i < 16 → C1 i = C i) (hlc : lc < 6) (hi : i < tc) (h1 : 1 ≤ size) (hs : size ≤ tl i) (hT : 1 ≤ T ∧ T ≤ 99) (hst : ∀ k, k < size → strI (C 6 (j * 12 + (off + k)) - C 6 (i * 12 + k))) : Inv (bk (mlC C1 lc i j off size (nI T)) 1) hd tc op (lc + 1) tl (nup ll lc size) (nup lt lc T) ∧ (∀ q, q < 10 → mlC C1 lc i j off size (nI T) q = C1 q) ∧ (∀ k, k < size → mlC C1 lc i j off size (nI T) 11 (lc * 12 + k) = C 5 (i * 12 + k) ∧ mlC C1 lc i j off size (nI T) 12 (lc * 12 + k) = C 6 (i * 12 + k) ∧ mlC C1 lc i j off size (nI T) 13 (lc * 12 + k) = C 6 (j * 12 + (off + k)) - C 6 (i * 12 + k)) := by
  obtain ⟨C2, hC2⟩ : ∃ C2, C2 = mlC C1 lc i j off size (nI T) := ⟨_, rfl⟩
  have on : ∀ q, (q < 10 ∨ 15 < q) → C2 q = C1 q := fun q hq => by rw [hC2, mlC_n hq]
  have o10 : C2 10 0 = nI (lc + 1) := by rw [hC2]; unfold mlC; rw [mset_s, pk_us]
  have o11 : C2 11 = fil (C 11) (lc * 12) (vT C1 i) size := by rw [hC2]; unfold mlC mkC; rw [mset_n (by decide), mset_n (by decide), mset_n (by decide), mset_n (by decide), mset_n (by decide), mset_s, lo 11 (by decide)]
  have o12 : C2 12 = fil (C 12) (lc * 12) (nT C1 i) size := by rw [hC2]; unfold mlC mkC; rw [mset_n (by decide), mset_n (by decide), mset_n (by decide), mset_n (by decide), mset_s, lo 12 (by decide)]
  have o13 : C2 13 = fil (C 13) (lc * 12) (fun k => nT C1 j (off + k) - nT C1 i k) size := by rw [hC2]; unfold mlC mkC; rw [mset_n (by decide), mset_n (by decide), mset_n (by decide), mset_s, lo 13 (by decide)]
  have o14 : C2 14 = upd (C 14) lc (nI size) := by rw [hC2]; unfold mlC mkC; rw [mset_n (by decide), mset_n (by decide), mset_s, lo 14 (by decide)]
  have o15 : C2 15 = upd (C 15) lc (nI T) := by rw [hC2]; unfold mlC mkC; rw [mset_n (by decide), mset_s, lo 15 (by decide)]
  have key : ∀ k, k < size → C2 11 (lc * 12 + k) = C 5 (i * 12 + k) ∧ C2 12 (lc * 12 + k) = C 6 (i * 12 + k) ∧ C2 13 (lc * 12 + k) = C 6 (j * 12 + (off + k)) - C 6 (i * 12 + k) := fun k hk => by
    rw [o11, o12, o13, fil_at hk, fil_at hk, fil_at hk]
    show C1 5 _ = _ ∧ C1 6 _ = _ ∧ C1 6 _ - C1 6 _ = _
    rw [lo 5 (by decide), lo 6 (by decide)]
    exact ⟨rfl, rfl, rfl⟩
  rw [← hC2]
  have tri := iv_tr hI (i := i) (by omega)
  obtain ⟨r, tr, l1, l2, l3⟩ := hI
  refine ⟨⟨row_eq (by rw [on 2 (by decide), lo 2 (by decide)]) (by rw [on 3 (by decide), lo 3 (by decide)]) r, trs_eq (by rw [on 1 (by decide), lo 1 (by decide)]) (fun i h1 h2 => by rw [on i (by omega), lo i (by omega)]) tr, o10, by omega, fun q hq => ?_⟩, fun q hq => on q (by omega), key⟩
  by_cases hql : q = lc
  · subst hql
    rw [nup_s, nup_s]
    refine ⟨by show C2 14 q = _; rw [o14, pk_us], h1, by omega, by show C2 15 q = _; rw [o15, pk_us], hT.1, hT.2, fun k hk => ?_⟩
    obtain ⟨k1, k2, k3⟩ := key k hk
    show verbI (C2 11 (q * 12 + k)) ∧ inR (C2 11 (q * 12 + k)) (C2 12 (q * 12 + k)) ∧ strI (C2 13 (q * 12 + k))
    rw [k1, k2, k3]
    exact ⟨(tri.2.2 k (by omega)).1, (tri.2.2 k (by omega)).2, hst k hk⟩
  · rw [nup_n hql, nup_n hql]
    have w := l3 q (by omega)
    have w2 := w.2.2.1
    refine LpI_of (b := bk C 1) (j := q) (t := lt q) ?_ ?_ ⟨w.2.2.2.2.1, w.2.2.2.2.2.1⟩ (fun k hk => ?_) (fun k hk => ?_) (fun k hk => ?_) w
    · show C2 14 q = _
      rw [o14, pk_un hql]
      exact w.1
    · show C2 15 q = _
      rw [o15, pk_un hql]
      exact w.2.2.2.1
    · show C2 11 _ = C 11 _
      rw [o11, fil_out (by omega)]
    · show C2 12 _ = C 12 _
      rw [o12, fil_out (by omega)]
    · show C2 13 _ = C 13 _
      rw [o13, fil_out (by omega)]
theorem m_generalise {i j : Nat} (hi : i < tc) (hj : j < tc) (hn : i ≠ j ∧ likC C i j (tl i) (tl j)) (hlc : lc < 6) (hJ : JW C st) (hI : Inv (bk C 1) hd tc op lc tl ll lt) (hD : SC C D) : Ct G l yX6_generalise cX6_generalise 3 (some .int) 5 0 0 sz [.ref a, .int (nI i), .int (nI j)] (B G a D) (Rm G a (nI lc) (fun C' => Psh C st C' ∧ Inv (bk C' 1) hd tc op (lc + 1) tl (nup ll lc (tl i)) (nup lt lc 2) ∧ fitC C' lc (tl i) i (tl i))) := by
  obtain ⟨d1, d2, d3, d4, d5, d6, d7, d8, d9, d10, d11⟩ := fD hI hD
  obtain ⟨j1, j2, j3⟩ := fJ hJ hD
  refine rm_p rfl (tX6_generalise (tc := tc) (lc := lc) (st := st) (i := i) (j := j) (si := tl i) (sj := tl j) d1 d2 hi hj (d10 i (by omega)).1 (d10 j (by omega)).1 (d10 i (by omega)).2 (d10 j (by omega)).2 ⟨hn.1, (likC_SC hD).mpr hn.2⟩ d6 hlc j1 j2 j3 d3) (fun C1 hP => ?_)
  have lo : ∀ i, i < 16 → C1 i = C i := fun i hi => (hP.1 i (Or.inl hi)).trans (hD.lo (by omega))
  obtain ⟨hll, hlik⟩ := hn.2
  have ti := iv_tr hI (i := i) (by omega)
  have tj := iv_tr hI (i := j) (by omega)
  obtain ⟨k1, k2, k3⟩ := Inv_loop (C1 := C1) (i := i) (j := j) (off := 0) (size := tl i) (T := 2) hI lo hlc hi (iv_t1 hI hi) (Nat.le_refl _) (by decide) (fun k hk => by
    rw [Nat.zero_add]
    have q := (tj.2.2 k (by omega)).2
    have e : C 5 (i * 12 + k) = C 5 (j * 12 + k) := hlik k hk
    rw [← e] at q
    exact strI_sub q (ti.2.2 k hk).2)
  refine ⟨SC_Psh hJ hD (Psh_of j2 hP (fun i h1 h2 => mlC_n (by omega))), k1, Nat.mod_self _, fun k hk => ?_⟩
  have hk0 : k / tl i = 0 := Nat.div_eq_of_lt hk
  obtain ⟨g1, g2, -⟩ := k3 k hk
  rw [Nat.mod_eq_of_lt hk, hk0, show nI 0 = (0 : Int32) from rfl, Int32.zero_mul, i_add0]
  show mlC C1 lc i j 0 (tl i) (nI 2) 5 _ = mlC C1 lc i j 0 (tl i) (nI 2) 11 _ ∧ mlC C1 lc i j 0 (tl i) (nI 2) 6 _ = mlC C1 lc i j 0 (tl i) (nI 2) 12 _
  rw [g1, g2, k2 5 (by decide), k2 6 (by decide), lo 5 (by decide), lo 6 (by decide)]
  exact ⟨rfl, rfl⟩
theorem okP_SC {n len s : Nat} (hD : SC C D) : okP D n len s ↔ okP C n len s := by
  unfold okP repC
  show (_ ∧ _ ∧ ∀ m, m < len → s ≤ m → D 5 _ = D 5 _ ∧ (_ → D 6 _ - D 6 _ = D 6 _ - D 6 _)) ↔ (_ ∧ _ ∧ ∀ m, m < len → s ≤ m → C 5 _ = C 5 _ ∧ (_ → C 6 _ - C 6 _ = C 6 _ - C 6 _))
  rw [hD.lo (i := 5) (by decide), hD.lo (i := 6) (by decide)]
/-- a try that repeats itself -/
theorem rep_ex {n len s : Nat} (h1 : 1 ≤ s) (h : okP C n len s) : ∀ k, k < len → C 5 (n * 12 + k) = C 5 (n * 12 + k % s) ∧ C 6 (n * 12 + k) = C 6 (n * 12 + k % s) + nI (k / s) * (C 6 (n * 12 + (s + k % s)) - C 6 (n * 12 + k % s)) := by
  obtain ⟨o1, o2, o3⟩ := h
  have ri : ∀ m, m < len → s ≤ m → C 6 (n * 12 + m) - C 6 (n * 12 + (m - s)) = C 6 (n * 12 + (s + m % s)) - C 6 (n * 12 + m % s) := by
    intro m
    induction m using Nat.strongRecOn with
    | _ m ih =>
      intro hm hsm
      by_cases h2s : 2 * s ≤ m
      · have e1 := (o3 m hm hsm).2 h2s
        have e2 := ih (m - s) (by omega) (by omega) (by omega)
        have e3 : (m - s) % s = m % s := by rw [← Nat.mod_eq_sub_mod (by omega)]
        rw [e3] at e2
        exact e1.trans e2
      · have e3 : m % s = m - s := by rw [Nat.mod_eq_sub_mod hsm, Nat.mod_eq_of_lt (by omega)]
        rw [e3, show s + (m - s) = m by omega]
  intro k
  induction k using Nat.strongRecOn with
  | _ k ih =>
    intro hk
    by_cases hks : k < s
    · rw [Nat.mod_eq_of_lt hks, Nat.div_eq_of_lt hks, show nI 0 = (0 : Int32) from rfl, Int32.zero_mul, i_add0]
      exact ⟨rfl, rfl⟩
    · obtain ⟨e1, e2⟩ := ih (k - s) (by omega) (by omega)
      have m1 : (k - s) % s = k % s := by rw [← Nat.mod_eq_sub_mod (by omega)]
      have m2 : k / s = (k - s) / s + 1 := by rw [Nat.div_eq_sub_div (by omega) (by omega)]
      rw [m1] at e1 e2
      refine ⟨(o3 k hk (by omega)).1.trans e1, ?_⟩
      have e3 := ri k hk (by omega)
      have e4 : C 6 (n * 12 + k) = C 6 (n * 12 + (k - s)) + (C 6 (n * 12 + (s + k % s)) - C 6 (n * 12 + k % s)) := by
        rw [← e3, Int32.add_comm, Int32.sub_add_cancel]
      rw [e4, e2, m2, ← ninc, show Int32.ofInt 1 = (1 : Int32) from rfl, Int32.add_mul, Int32.one_mul, Int32.add_assoc]
theorem m_fold {n : Nat} (hn : n < tc) (hJ : JW C st) (hI : Inv (bk C 1) hd tc op lc tl ll lt) (hD : SC C D) : (∃ v : Int32, (v = -4 ∨ (v = -3 ∧ lc = 6)) ∧ Ct G l yX6_fold cX6_fold 3 (some .int) 5 0 0 sz [.ref a, .int (nI n)] (B G a D) (Rq G a C v)) ∨ (lc < 6 ∧ ∃ s, 1 ≤ s ∧ 2 * s ≤ tl n ∧ tl n % s = 0 ∧ Ct G l yX6_fold cX6_fold 3 (some .int) 5 0 0 sz [.ref a, .int (nI n)] (B G a D) (Rm G a (nI lc) (fun C' => Psh C st C' ∧ Inv (bk C' 1) hd tc op (lc + 1) tl (nup ll lc s) (nup lt lc (tl n / s)) ∧ fitC C' lc s n (tl n)))) := by
  obtain ⟨d1, d2, d3, d4, d5, d6, d7, d8, d9, d10, d11⟩ := fD hI hD
  obtain ⟨j1, j2, j3⟩ := fJ hJ hD
  have hc := tX6_fold (G := G) (l := l) (sz := sz) (a := a) (C := D) (tc := tc) (lc := lc) (st := st) (n := n) (len := tl n) d1 d2 hn (d10 n (by omega)).1 (d10 n (by omega)).2 d6 d7 j1 j2 j3 d3
  obtain ⟨s, s1, s2, s3⟩ : ∃ s, (∀ s', 1 ≤ s' → s' < s → ¬ okP D n (tl n) s') ∧ (s = 0 → ∀ s', 1 ≤ s' → ¬ okP D n (tl n) s') ∧ (0 < s → okP D n (tl n) s) := by
    by_cases h : ∃ s, 1 ≤ s ∧ okP D n (tl n) s
    · have hex : ∃ s, (1 ≤ s ∧ okP D n (tl n) s) ∧ ∀ s', 1 ≤ s' → s' < s → ¬ okP D n (tl n) s' := by
        obtain ⟨s, hs⟩ := h
        induction s using Nat.strongRecOn with
        | _ s ih =>
          by_cases h2 : ∃ s', s' < s ∧ 1 ≤ s' ∧ okP D n (tl n) s'
          · obtain ⟨s', q1, q2⟩ := h2
            exact ih s' q1 q2
          · exact ⟨s, hs, fun s' q1 q2 q3 => h2 ⟨s', q2, q1, q3⟩⟩
      obtain ⟨s, q1, q2⟩ := hex
      exact ⟨s, q2, fun z => by omega, fun _ => q1.2⟩
    · exact ⟨0, fun s' q1 q2 => by omega, fun _ s' q1 q2 => h ⟨s', q1, q2⟩, fun z => by omega⟩
  have uniq : ∀ s', (∀ w, 1 ≤ w → w < s' → ¬ okP D n (tl n) w) → (s' = 0 → ∀ w, 1 ≤ w → ¬ okP D n (tl n) w) → (0 < s' → okP D n (tl n) s') → s' = s := by
    intro s' q1 q2 q3
    by_cases h0 : s = 0
    · by_cases h0' : s' = 0
      · omega
      · exact absurd (q3 (by omega)) (s2 h0 s' (by omega))
    · by_cases h0' : s' = 0
      · exact absurd (s3 (by omega)) (q2 h0' s (by omega))
      · rcases Nat.lt_trichotomy s' s with z | z | z
        · exact absurd (q3 (by omega)) (s1 s' (by omega) z)
        · exact z
        · exact absurd (s3 (by omega)) (q1 s (by omega) z)
  by_cases h0 : s = 0
  · refine Or.inl ⟨-4, Or.inl rfl, hc.weaken (fun r h' q => ?_)⟩
    obtain ⟨s', q1, q2, q3, q4⟩ := q
    have := uniq s' q1 q2 q3
    subst this
    rw [if_pos h0] at q4
    exact ⟨D, q4.1, q4.2, hD⟩
  · by_cases h6 : lc = 6
    · refine Or.inl ⟨-3, Or.inr ⟨rfl, h6⟩, hc.weaken (fun r h' q => ?_)⟩
      obtain ⟨s', q1, q2, q3, q4⟩ := q
      have := uniq s' q1 q2 q3
      subst this
      rw [if_neg h0, if_pos h6] at q4
      exact ⟨D, q4.1, q4.2, hD⟩
    · have hok := (okP_SC hD).mp (s3 (by omega))
      have hsl := hok.2.1
      have hrep := rep_ex (by omega) hok
      refine Or.inr ⟨by omega, s, by omega, hsl, hok.1, hc.weaken (fun r h' q => ?_)⟩
      obtain ⟨s', q1, q2, q3, q4⟩ := q
      have := uniq s' q1 q2 q3
      subst this
      rw [if_neg h0, if_neg h6] at q4
      obtain ⟨C1, r1, r2, hP⟩ := q4
      have lo : ∀ i, i < 16 → C1 i = C i := fun i hi => (hP.1 i (Or.inl hi)).trans (hD.lo (by omega))
      have tn := iv_tr hI (i := n) (by omega)
      have hT2 : 2 ≤ tl n / s' := (Nat.le_div_iff_mul_le (by omega)).mpr hsl
      have hT3 : tl n / s' ≤ tl n := Nat.div_le_self _ _
      obtain ⟨k1, k2, k3⟩ := Inv_loop (C1 := C1) (i := n) (j := n) (off := s') (size := s') (T := tl n / s') hI lo (by omega) hn (by omega) (by omega) ⟨by omega, by omega⟩ (fun k hk => by
        have q := (tn.2.2 (s' + k) (by omega)).2
        have e : C 5 (n * 12 + (s' + k)) = C 5 (n * 12 + k) := by
          have := (hok.2.2 (s' + k) (by omega) (by omega)).1
          rw [Nat.add_sub_cancel_left] at this
          exact this
        rw [e] at q
        exact strI_sub q (tn.2.2 k (by omega)).2)
      refine ⟨_, r1, r2, SC_Psh hJ hD (Psh_of j2 hP (fun i h1 h2 => mlC_n (by omega))), k1, hok.1, fun k hk => ?_⟩
      have hm : k % s' < s' := Nat.mod_lt _ (by omega)
      obtain ⟨g1, g2, g3⟩ := k3 (k % s') hm
      obtain ⟨f1, f2⟩ := hrep k hk
      show mlC C1 lc n n s' s' (nI (tl n / s')) 5 _ = mlC C1 lc n n s' s' (nI (tl n / s')) 11 _ ∧ mlC C1 lc n n s' s' (nI (tl n / s')) 6 _ = mlC C1 lc n n s' s' (nI (tl n / s')) 12 _ + _ * mlC C1 lc n n s' s' (nI (tl n / s')) 13 _
      rw [g1, g2, g3, k2 5 (by decide), k2 6 (by decide), lo 5 (by decide), lo 6 (by decide)]
      exact ⟨f1, f2⟩
/-- a snapshot -/
theorem m_keep (hJ : JW C st) (hI : Inv (bk C 1) hd tc op lc tl ll lt) (hD : SC C D) : Ct G l yX6_keep cX6_keep 1 (some .int) 4 0 0 sz [.ref a] (B G a D) (Rm G a (nI tc) (fun C' => JW C' st ∧ BE (bk C 1) (bk C' 1) ∧ BE (bk C 1) (bk C' 78) ∧ C' 0 0 = 1)) := by
  obtain ⟨d1, d2, d3, -⟩ := fD hI hD
  obtain ⟨a1, a2, a3, a4, a5, a6, a7⟩ := JW_SC hD hJ
  refine (tX6_keep d3).weaken (fun r h' q => ?_)
  obtain ⟨C', q1, q2, q3, q4, q5⟩ := q
  have e17 := q3 17 (by decide) (by decide)
  have b78 : BE (bk C 1) (bk C' 78) := (hD.bk (by decide)).tr (fun i hi j hj => q5 i hi j hj)
  refine ⟨C', by rw [q1, d1], q2, ⟨a1, HiK_eq a2 e17, by rw [q3 16 (by decide) (by decide), a3], fun i hi => ?_, Or.inr ⟨q4, IB_cg b78 ⟨_, _, _, _, _, _, _, hI⟩⟩, by rw [q3 93 (by decide) (by decide), a6], fun j => by rw [q3 94 (by decide) (by decide)]; exact a7 j⟩, (hD.bk (by decide)).tr (fun i hi j hj => by show C' (1 + i) j = D (1 + i) j; rw [q3 _ (by omega) (by omega)]), b78, q4⟩
  have hb := hB_lt a2 (i := i) (by omega)
  rw [hB_eq e17]
  exact IB_cg (fun k hk j hj => by show C' (hB D i + k) j = D (hB D i + k) j; rw [q3 _ (by omega) (by omega)]) (a4 i hi)
/-- the snapshot brought back -/
theorem m_restore (h0 : C 0 0 = 1) (hJ : JW C st) (hI : Inv (bk C 1) hd tc op lc tl ll lt) (hD : SC C D) : Ct G l yX6_restore cX6_restore 1 (some .int) 5 0 0 sz [.ref a] (B G a D) (Rm G a (C 81 0) (fun C' => Psh C st C' ∧ BE (bk C 78) (bk C' 1))) := by
  obtain ⟨d1, d2, d3, -⟩ := fD hI hD
  obtain ⟨a1, a2, a3, a4, a5, a6, a7⟩ := JW_SC hD hJ
  have h0' : D 0 0 = 1 := by rw [hD.lo (by decide), h0]
  have hop2 : D 78 0 = 0 ∨ D 78 0 = 1 := by
    rcases a5 with a5 | ⟨-, hd', tc', op', lc', tl', ll', lt', a5⟩
    · rw [h0'] at a5
      exact absurd a5 (by decide)
    · have e : D 78 0 = nI op' := a5.2.1.2.2.1
      rcases a5.2.1.2.2.2.1 with z | ⟨z, -⟩
      · rw [e, z]; exact Or.inl rfl
      · rw [e, z]; exact Or.inr rfl
  refine (tX6_restore (n := st) h0' a2 a3 a1 d3 hop2).weaken (fun r h' q => ?_)
  obtain ⟨C1, C', q1, q2, q3, q4, q5⟩ := q
  refine ⟨C', ?_, q2, SC_Psh hJ hD (Psh_of a1 q3 (fun i h1 h2 => q4 i (by omega))), (hD.bk (by decide)).tr (fun i hi j hj => q5 i hi j hj)⟩
  have e : C' 4 0 = C 81 0 := by
    have : C' (1 + 3) 0 = D (78 + 3) 0 := q5 3 (by decide) 0 (by decide)
    rw [hD.lo (by decide)] at this
    exact this
  rw [q1, e]
/-- the latest state brought back -/
theorem m_undo {m : Nat} (hm : st = m + 1) (hJ : JW C st) (hD : SC C D) : Ct G l yX6_undo cX6_undo 1 (some .int) 5 0 0 sz [.ref a] (B G a D) (Rm G a (nI m) (fun C' => JW C' m ∧ BE (bk C (hB C m)) (bk C' 1) ∧ C' 0 0 = C 0 0 ∧ (∀ i, 78 ≤ i → i < 93 → C' i = C i))) := by
  obtain ⟨a1, a2, a3, a4, a5, a6, a7⟩ := JW_SC hD hJ
  subst hm
  have hop : D (hB D m) 0 = 0 ∨ D (hB D m) 0 = 1 := by
    obtain ⟨hd', tc', op', lc', tl', ll', lt', q⟩ := a4 m (by omega)
    have e : D (hB D m) 0 = nI op' := q.2.1.2.2.1
    rcases q.2.1.2.2.2.1 with z | ⟨z, -⟩
    · rw [e, z]; exact Or.inl rfl
    · rw [e, z]; exact Or.inr rfl
  refine (tX6_undo (n := m + 1) a2 a3 a1 (by omega) hop).weaken (fun r h' q => ?_)
  obtain ⟨C', q1, q2, q3, q4, q5, q6⟩ := q
  have e17 := q3 17 (by decide) (by decide)
  have ed : hB D m = hB C m := hB_eq (hD.lo (by decide)) m
  have hbl := hB_lt a2 (i := m) (by omega)
  refine ⟨C', q1, q2, ⟨by omega, HiK_eq a2 e17, q5, fun i hi => ?_, ?_, by rw [q3 93 (by decide) (by decide), a6], fun j => by rw [q3 94 (by decide) (by decide)]; exact a7 j⟩, ?_, by rw [q4, hD.lo (by decide)], fun i h1 h2 => by rw [q3 i (by omega) (by omega), hD.lo h2]⟩
  · have hb := hB_lt a2 (i := i) (by omega)
    rw [hB_eq e17]
    exact IB_cg (fun k hk j hj => by show C' (hB D i + k) j = D (hB D i + k) j; rw [q3 _ (by omega) (by omega)]) (a4 i (by omega))
  · rw [q4]
    rcases a5 with a5 | ⟨a5, a5'⟩
    · exact Or.inl a5
    · exact Or.inr ⟨a5, IB_cg (fun k hk j hj => by show C' (78 + k) j = D (78 + k) j; rw [q3 _ (by omega) (by omega)]) a5'⟩
  · rw [← ed]
    exact BE.tr (hD.bk (s := hB D m) (by omega)) (fun i hi j hj => q6 i hi j hj)
end MUT
