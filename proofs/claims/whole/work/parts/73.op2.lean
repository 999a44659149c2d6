/-! The calls on both sides: dropTry, dropLoop, setTurns. -/
section CLS
variable {G : GT} {l : Launch} {sz a : Nat} {C : CT}
theorem mvU_lo {f : Nat → Int32} {n w M j : Nat} (h : j < n * w) : mvU f n w M j = f j := by
  unfold mvU va_cpy
  rw [if_neg (by omega)]
theorem mvU_hi {f : Nat → Int32} {n w M j : Nat} (h : n * w ≤ j) (h2 : j + w < M) : mvU f n w M j = f (j + w) := by
  unfold mvU va_cpy
  rw [if_pos (by omega)]
  congr 1
  omega
theorem drS_q {C : CT} {q W N n cnt i : Nat} (h : i < q ∨ q + 5 < i) : drS C q W N n cnt i = C i := by
  unfold drS
  rw [mset_n (by omega), mset_n (by omega), mset_n (by omega), mset_n (by omega), mset_n (by omega), mset_n (by omega)]
theorem zDT_lo {z : Nat → Int32} {tc n j : Nat} (h : j < 38 + 25 * n) (h2 : j ≠ 31) : zDT z tc n j = z j := by
  unfold zDT va_cpy
  rw [if_neg (by omega), pk_un h2]
theorem zDT_mv {z : Nat → Int32} {tc n j : Nat} (h : 38 + 25 * n ≤ j) (h2 : j < 188) : zDT z tc n j = z (j + 25) := by
  unfold zDT va_cpy
  rw [if_pos (by omega), pk_un (by omega)]
  congr 1
  omega
theorem zDT_hi {z : Nat → Int32} {tc n j : Nat} (hn : n ≤ 6) (h : 188 ≤ j) : zDT z tc n j = z j := by
  unfold zDT va_cpy
  rw [if_neg (by omega), pk_un (by omega)]
theorem zDL_lo {z : Nat → Int32} {lc n j : Nat} (h : j < 213 + 38 * n) (h2 : j ≠ 33) : zDL z lc n j = z j := by
  unfold zDL va_cpy
  rw [if_neg (by omega), pk_un h2]
theorem zDL_mv {z : Nat → Int32} {lc n j : Nat} (h : 213 + 38 * n ≤ j) (h2 : j < 403) : zDL z lc n j = z (j + 38) := by
  unfold zDL va_cpy
  rw [if_pos (by omega), pk_un (by omega)]
  congr 1
  omega
theorem op_dropTry (x1 : Int32) (hJ : JE C) : ∃ v : Int32, Ct G l yX6_dropTry cX6_dropTry 2 (some .int) 5 0 0 sz [.ref a, .int x1] (B G a C) (Rx G a v (fun C' => Ct G l yX7_dropTry cX7_dropTry 3 (some .int) 2 0 0 sz [.ref (a + 105), .int x1] (B G a C') (Rx G a v JE))) := by
  obtain ⟨st, n0, hJ⟩ := hJ
  obtain ⟨a1, a2, a3, a4, a5, -⟩ := id hJ
  obtain ⟨hd, tc, op, lc, b1, b2, b3, b4, b5, b6, b7, b8, b9, c1, c2, c3, c4, c5, c6, c7⟩ := stR_ex a5
  by_cases hx : isIx x1 tc
  · obtain ⟨n, hn, rfl⟩ := ix_ex hx
    have a5' := a5
    obtain ⟨r1, -, r3⟩ := a5'
    refine ⟨nI (tc - 1), Rx_p (tX6_dropTry b8 b6 hn a2 a1 a3 (stR_op a5)) (fun C1 hP => ?_)⟩
    have hP1 := hP.1
    have lo : ∀ i, i < 16 → C1 i = C i := fun i hi => hP1 i (Or.inl hi)
    have hi : ∀ i, 78 ≤ i → C1 i = C i := fun i hi => hP1 i (Or.inr hi)
    obtain ⟨C2, hC2⟩ : ∃ C2, C2 = drS C1 4 12 6 n tc := ⟨_, rfl⟩
    have on : ∀ i, (i < 4 ∨ 9 < i) → C2 i = C1 i := fun i h1 => by rw [hC2, drS_q (by omega)]
    have o4 : C2 4 0 = nI (tc - 1) := by rw [hC2]; unfold drS; rw [mset_s, pk_us]
    have o5 : C2 5 = mvU (C 5) n 12 72 := by rw [hC2]; unfold drS; rw [mset_n (by decide), mset_n (by decide), mset_n (by decide), mset_n (by decide), mset_n (by decide), mset_s, lo _ (by decide)]
    have o6 : C2 6 = mvU (C 6) n 12 72 := by rw [hC2]; unfold drS; rw [mset_n (by decide), mset_n (by decide), mset_n (by decide), mset_n (by decide), mset_s, lo _ (by decide)]
    have o8 : C2 8 = mvU (C 8) n 1 6 := by rw [hC2]; unfold drS; rw [mset_n (by decide), mset_n (by decide), mset_s, lo _ (by decide)]
    rw [← hC2]
    have e106 : C2 106 = C 106 := by rw [on 106 (by decide), hi 106 (by decide)]
    have e105 : C2 105 = C 105 := by rw [on 105 (by decide), hi 105 (by decide)]
    have m1 := tX7_dropTry (G := G) (l := l) (sz := sz) (a := a) (C := C2) (st := st) (tc := tc) (n := n) a1 (by rw [e105]; exact a4) (by rw [e106]; exact b9) b6 hn
    rw [e106] at m1
    refine Rx_w m1 (JE_push hJ hP (fun i q1 q2 q3 => on i (by omega)) (on 93 (by decide)) (on 0 (by decide)) (fun i hi2 => by rw [on i (by omega), hi i (by omega)]) ⟨?_, ⟨tc - 1, op, by omega, by omega, o4, ?_, ?_, ?_, fun i hi => ?_⟩, lc, ?_⟩)
    · exact RoR_eq (fun j q1 q2 => by rw [on 1 (by decide), lo 1 (by decide)]) (by rw [on 2 (by decide), lo 2 (by decide)]) (by rw [on 3 (by decide), lo 3 (by decide)]) (fun j hj => zDT_lo (by omega) (by omega)) (fun j q1 q2 => zDT_lo (by omega) (by omega)) r1
    · unfold zDT va_cpy
      rw [if_neg (by omega), pk_us]
    · show C2 1 0 = nI op
      rw [on 1 (by decide), lo 1 (by decide), c1]
    · rw [zDT_lo (by omega) (by decide), c2]
    · by_cases hin : i < n
      · obtain ⟨m, m1, m2, m3⟩ := c6 i (by omega)
        refine ⟨m, m1, fun z => m2 (by omega), trR_cg m1 ?_ (fun k hk => ?_) (fun k hk => ?_) (fun j hj => zDT_lo (by omega) (by omega)) m3⟩
        · show C2 8 i = C 8 i
          rw [o8, mvU_lo (by omega)]
        · show C2 5 _ = C 5 _
          rw [o5, mvU_lo (by omega)]
        · show C2 6 _ = C 6 _
          rw [o6, mvU_lo (by omega)]
      · obtain ⟨m, m1, m2, m3⟩ := c6 (i + 1) (by omega)
        refine ⟨m, m1, fun z => m2 (by omega), trR_cg m1 ?_ (fun k hk => ?_) (fun k hk => ?_) (fun j hj => ?_) m3⟩
        · show C2 8 i = C 8 (i + 1)
          rw [o8, mvU_hi (by omega) (by omega)]
        · show C2 5 _ = C 5 _
          rw [o5, mvU_hi (by omega) (by omega)]
          congr 1
          omega
        · show C2 6 _ = C 6 _
          rw [o6, mvU_hi (by omega) (by omega)]
          congr 1
          omega
        · rw [zDT_mv (by omega) (by omega)]
          congr 1
          omega
    · exact LpsR_eq (fun i q1 q2 => by rw [on i (by omega), lo i (by omega)]) (zDT_lo (by omega) (by decide)) (fun j q1 q2 => zDT_hi (by omega) (by omega)) ⟨c3, c4, c5, c7⟩
  · exact ⟨-1, Rx_w (tX6_dropTry_o x1 b8 b6 hx) (Rx_w (tX7_dropTry_o x1 b9 b6 hx) ⟨st, n0, hJ⟩)⟩
theorem op_dropLoop (x1 : Int32) (hJ : JE C) : ∃ v : Int32, Ct G l yX6_dropLoop cX6_dropLoop 2 (some .int) 5 0 0 sz [.ref a, .int x1] (B G a C) (Rx G a v (fun C' => Ct G l yX7_dropLoop cX7_dropLoop 3 (some .int) 2 0 0 sz [.ref (a + 105), .int x1] (B G a C') (Rx G a v JE))) := by
  obtain ⟨st, n0, hJ⟩ := hJ
  obtain ⟨a1, a2, a3, a4, a5, -⟩ := id hJ
  obtain ⟨hd, tc, op, lc, b1, b2, b3, b4, b5, b6, b7, b8, b9, c1, c2, c3, c4, c5, c6, c7⟩ := stR_ex a5
  by_cases hx : isIx x1 lc
  · obtain ⟨n, hn, rfl⟩ := ix_ex hx
    have a5' := a5
    obtain ⟨r1, -, r3⟩ := a5'
    refine ⟨nI (lc - 1), Rx_p (tX6_dropLoop c4 c3 hn a2 a1 a3 (stR_op a5)) (fun C1 hP => ?_)⟩
    have hP1 := hP.1
    have lo : ∀ i, i < 16 → C1 i = C i := fun i hi => hP1 i (Or.inl hi)
    have hi : ∀ i, 78 ≤ i → C1 i = C i := fun i hi => hP1 i (Or.inr hi)
    obtain ⟨C2, hC2⟩ : ∃ C2, C2 = drS C1 10 12 6 n lc := ⟨_, rfl⟩
    have on : ∀ i, (i < 10 ∨ 15 < i) → C2 i = C1 i := fun i h1 => by rw [hC2, drS_q (by omega)]
    have o10 : C2 10 0 = nI (lc - 1) := by rw [hC2]; unfold drS; rw [mset_s, pk_us]
    have o11 : C2 11 = mvU (C 11) n 12 72 := by rw [hC2]; unfold drS; rw [mset_n (by decide), mset_n (by decide), mset_n (by decide), mset_n (by decide), mset_n (by decide), mset_s, lo _ (by decide)]
    have o12 : C2 12 = mvU (C 12) n 12 72 := by rw [hC2]; unfold drS; rw [mset_n (by decide), mset_n (by decide), mset_n (by decide), mset_n (by decide), mset_s, lo _ (by decide)]
    have o13 : C2 13 = mvU (C 13) n 12 72 := by rw [hC2]; unfold drS; rw [mset_n (by decide), mset_n (by decide), mset_n (by decide), mset_s, lo _ (by decide)]
    have o14 : C2 14 = mvU (C 14) n 1 6 := by rw [hC2]; unfold drS; rw [mset_n (by decide), mset_n (by decide), mset_s, lo _ (by decide)]
    have o15 : C2 15 = mvU (C 15) n 1 6 := by rw [hC2]; unfold drS; rw [mset_n (by decide), mset_s, lo _ (by decide)]
    rw [← hC2]
    have e106 : C2 106 = C 106 := by rw [on 106 (by decide), hi 106 (by decide)]
    have e105 : C2 105 = C 105 := by rw [on 105 (by decide), hi 105 (by decide)]
    have m1 := tX7_dropLoop (G := G) (l := l) (sz := sz) (a := a) (C := C2) (st := st) (lc := lc) (n := n) a1 (by rw [e105]; exact a4) (by rw [e106]; exact c5) c3 hn
    rw [e106] at m1
    refine Rx_w m1 (JE_push hJ hP (fun i q1 q2 q3 => on i (by omega)) (on 93 (by decide)) (on 0 (by decide)) (fun i hi2 => by rw [on i (by omega), hi i (by omega)]) ⟨?_, ⟨tc, op, ?_⟩, lc - 1, by omega, o10, ?_, fun i hi => ?_⟩)
    · exact RoR_eq (fun j q1 q2 => by rw [on 1 (by decide), lo 1 (by decide)]) (by rw [on 2 (by decide), lo 2 (by decide)]) (by rw [on 3 (by decide), lo 3 (by decide)]) (fun j hj => zDL_lo (by omega) (by omega)) (fun j q1 q2 => zDL_lo (by omega) (by omega)) r1
    · exact TrsR_eq (by rw [on 1 (by decide), lo 1 (by decide)]) (fun i q1 q2 => by rw [on i (by omega), lo i (by omega)]) (fun j q1 q2 => zDL_lo (by omega) (by omega)) (fun j q1 q2 => zDL_lo (by omega) (by omega)) ⟨b6, b7, b8, b9, c1, c2, c6⟩
    · unfold zDL va_cpy
      rw [if_neg (by omega), pk_us]
    · by_cases hin : i < n
      · obtain ⟨m, t, m1, m2, m3, m4, m5⟩ := c7 i (by omega)
        refine ⟨m, t, m1, m2, m3, m4, lpR_cg m2 ?_ ?_ (fun k hk => ?_) (fun k hk => ?_) (fun k hk => ?_) (fun j hj => zDL_lo (by omega) (by omega)) m5⟩
        · show C2 14 i = C 14 i
          rw [o14, mvU_lo (by omega)]
        · show C2 15 i = C 15 i
          rw [o15, mvU_lo (by omega)]
        · show C2 11 _ = C 11 _
          rw [o11, mvU_lo (by omega)]
        · show C2 12 _ = C 12 _
          rw [o12, mvU_lo (by omega)]
        · show C2 13 _ = C 13 _
          rw [o13, mvU_lo (by omega)]
      · obtain ⟨m, t, m1, m2, m3, m4, m5⟩ := c7 (i + 1) (by omega)
        have e : i * 12 + 12 = (i + 1) * 12 := by omega
        refine ⟨m, t, m1, m2, m3, m4, lpR_cg m2 ?_ ?_ (fun k hk => ?_) (fun k hk => ?_) (fun k hk => ?_) (fun j hj => ?_) m5⟩
        · show C2 14 i = C 14 (i + 1)
          rw [o14, mvU_hi (by omega) (by omega)]
        · show C2 15 i = C 15 (i + 1)
          rw [o15, mvU_hi (by omega) (by omega)]
        · show C2 11 _ = C 11 _
          rw [o11, mvU_hi (by omega) (by omega)]
          congr 1
          omega
        · show C2 12 _ = C 12 _
          rw [o12, mvU_hi (by omega) (by omega)]
          congr 1
          omega
        · show C2 13 _ = C 13 _
          rw [o13, mvU_hi (by omega) (by omega)]
          congr 1
          omega
        · rw [zDL_mv (by omega) (by omega)]
          congr 1
          omega
  · exact ⟨-1, Rx_w (tX6_dropLoop_o x1 c4 c3 hx) (Rx_w (tX7_dropLoop_o x1 c5 c3 hx) ⟨st, n0, hJ⟩)⟩
theorem op_setTurns (x1 x2 : Int32) (hJ : JE C) : ∃ v : Int32, Ct G l yX6_setTurns cX6_setTurns 4 (some .int) 5 0 0 sz [.ref a, .int x1, .int x2] (B G a C) (Rx G a v (fun C' => Ct G l yX7_setTurns cX7_setTurns 4 (some .int) 2 0 0 sz [.ref (a + 105), .int x1, .int x2] (B G a C') (Rx G a v JE))) := by
  obtain ⟨st, n0, hJ⟩ := hJ
  obtain ⟨a1, a2, a3, a4, a5, -⟩ := id hJ
  obtain ⟨hd, tc, op, lc, b1, b2, b3, b4, b5, b6, b7, b8, b9, c1, c2, c3, c4, c5, c6, c7⟩ := stR_ex a5
  by_cases hx : isIx x1 lc
  · obtain ⟨n, hn, rfl⟩ := ix_ex hx
    have hm := fun (D : CT) (h6 : D 106 = C 106) (h5 : D 105 = C 105) => tX7_setTurns (G := G) (l := l) (sz := sz) (a := a) (C := D) (st := st) (lc := lc) (n := n) x2 a1 (by rw [h5]; exact a4) (by rw [h6]; exact c5) c3 hn
    obtain ⟨m, t, m1, m2, m3, m4, m5⟩ := c7 n hn
    obtain ⟨l1, l2, l3, l4, l5⟩ := lpR_ex m5
    by_cases ht : 1 ≤ x2 ∧ x2 ≤ 99
    · by_cases hs : C 15 n = x2
      · refine ⟨-5, Rx_w (tX6_setTurns_s x2 c4 c3 hn ht hs) ?_⟩
        have := hm C rfl rfl
        have e : C 106 (214 + 38 * n) = x2 := by rw [l4, ← l3, hs]
        rw [if_neg (show ¬ ¬ (1 ≤ x2 ∧ x2 ≤ 99) from fun z => z ht), if_neg (show ¬ ¬ (1 ≤ x2 ∧ x2 ≤ 99) from fun z => z ht), if_pos e, if_pos e] at this
        exact Rx_w this ⟨st, n0, hJ⟩
      · have a5' := a5
        obtain ⟨r1, -, r3⟩ := a5'
        refine ⟨C 15 n, Rx_p (tX6_setTurns x2 c4 c3 hn ht hs a2 a1 a3 (stR_op a5)) (fun C1 hP => ?_)⟩
        have hP1 := hP.1
        have lo : ∀ i, i < 16 → C1 i = C i := fun i hi => hP1 i (Or.inl hi)
        have hi : ∀ i, 78 ≤ i → C1 i = C i := fun i hi => hP1 i (Or.inr hi)
        obtain ⟨C2, hC2⟩ : ∃ C2, C2 = mset C1 15 (upd (C1 15) n x2) := ⟨_, rfl⟩
        have on : ∀ i, i ≠ 15 → C2 i = C1 i := fun i h1 => by rw [hC2, mset_n h1]
        have o15 : C2 15 = upd (C 15) n x2 := by rw [hC2, mset_s, lo _ (by decide)]
        rw [← hC2]
        have e106 : C2 106 = C 106 := by rw [on 106 (by decide), hi 106 (by decide)]
        have e105 : C2 105 = C 105 := by rw [on 105 (by decide), hi 105 (by decide)]
        have m1 := hm C2 e106 e105
        have e : ¬ C 106 (214 + 38 * n) = x2 := by rw [l4, ← l3]; exact hs
        rw [e106, if_neg (show ¬ ¬ (1 ≤ x2 ∧ x2 ≤ 99) from fun z => z ht), if_neg (show ¬ ¬ (1 ≤ x2 ∧ x2 ≤ 99) from fun z => z ht), if_neg e, if_neg e] at m1
        obtain ⟨T, hT, hT2⟩ := cl_ex (n := 99) (by decide) (⟨by have := ht.1; rw [i_le] at this ⊢; have e1 : (1 : Int32).toInt = 1 := rfl; have e0 : (0 : Int32).toInt = 0 := rfl; omega, ht.2⟩ : (0 : Int32) ≤ x2 ∧ x2 ≤ nI 99)
        have hT1 : 1 ≤ T := by
          have := ht.1
          rw [hT2] at this
          exact (cle (nlit (n := 1)) rfl (by decide) (by omega)).mp this
        refine Rx_we (by rw [l4, ← l3]) m1 (JE_push hJ hP (fun i q1 q2 q3 => on i (by omega)) (on 93 (by decide)) (on 0 (by decide)) (fun i hi2 => by rw [on i (by omega), hi i (by omega)]) ⟨?_, ⟨tc, op, ?_⟩, lc, c3, ?_, ?_, fun i hi => ?_⟩)
        · exact RoR_eq (fun j q1 q2 => by rw [on 1 (by decide), lo 1 (by decide)]) (by rw [on 2 (by decide), lo 2 (by decide)]) (by rw [on 3 (by decide), lo 3 (by decide)]) (fun j hj => pk_un (by omega)) (fun j q1 q2 => pk_un (by omega)) r1
        · exact TrsR_eq (by rw [on 1 (by decide), lo 1 (by decide)]) (fun i q1 q2 => by rw [on i (by omega), lo i (by omega)]) (fun j q1 q2 => pk_un (by omega)) (fun j q1 q2 => pk_un (by omega)) ⟨b6, b7, b8, b9, c1, c2, c6⟩
        · show C2 10 0 = nI lc
          rw [on 10 (by decide), lo 10 (by decide), c4]
        · rw [pk_un (by omega), c5]
        · by_cases hin : i = n
          · subst hin
            refine ⟨m, T, by omega, m2, hT1, hT, ?_, ?_, ?_, ?_, fun k hk => ?_⟩
            · show C2 14 i = nI m
              rw [on 14 (by decide), lo 14 (by decide), l1]
            · rw [pk_un (by omega), l2]
            · show C2 15 i = nI T
              rw [o15, pk_us, hT2]
            · rw [pk_us, hT2]
            · obtain ⟨g1, g2, g3, g4⟩ := l5 k hk
              refine ⟨?_, ?_, ?_, ?_⟩
              · show upd (C 106) _ x2 (213 + 38 * i + 2 + 3 * k) = C2 11 (i * 12 + k)
                rw [pk_un (by omega), on 11 (by decide), lo 11 (by decide), ← g1]
                rfl
              · show upd (C 106) _ x2 (213 + 38 * i + 3 + 3 * k) = C2 12 (i * 12 + k)
                rw [pk_un (by omega), on 12 (by decide), lo 12 (by decide), ← g2]
                rfl
              · show upd (C 106) _ x2 (213 + 38 * i + 4 + 3 * k) = C2 13 (i * 12 + k)
                rw [pk_un (by omega), on 13 (by decide), lo 13 (by decide), ← g3]
                rfl
              · show verbOK (C2 11 (i * 12 + k))
                rw [on 11 (by decide), lo 11 (by decide)]
                exact g4
          · obtain ⟨m, t, m1, m2, m3, m4, m5⟩ := c7 i hi
            refine ⟨m, t, m1, m2, m3, m4, lpR_cg m2 ?_ ?_ (fun k hk => ?_) (fun k hk => ?_) (fun k hk => ?_) (fun j hj => pk_un (by omega)) m5⟩
            · show C2 14 i = C 14 i
              rw [on 14 (by decide), lo 14 (by decide)]
            · show C2 15 i = C 15 i
              rw [o15, pk_un hin]
            · show C2 11 _ = C 11 _
              rw [on 11 (by decide), lo 11 (by decide)]
            · show C2 12 _ = C 12 _
              rw [on 12 (by decide), lo 12 (by decide)]
            · show C2 13 _ = C 13 _
              rw [on 13 (by decide), lo 13 (by decide)]
    · refine ⟨-2, Rx_w (tX6_setTurns_r x2 c4 c3 hn ht) ?_⟩
      have := hm C rfl rfl
      rw [if_pos ht, if_pos ht] at this
      exact Rx_w this ⟨st, n0, hJ⟩
  · exact ⟨-1, Rx_w (tX6_setTurns_o x1 x2 c4 c3 hx) (Rx_w (tX7_setTurns_o x1 x2 c5 c3 hx) ⟨st, n0, hJ⟩)⟩
end CLS
