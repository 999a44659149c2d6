/-! The calls on both sides: record, end, dropTry, dropLoop, setTurns. -/
section CLS
variable {G : GT} {l : Launch} {sz a : Nat} {C : CT}
theorem tX7_end_o (ho : C 106 32 = 0) : Ct G l yX7_end cX7_end 1 (some .int) 2 0 0 sz [.ref (a + 105)] (B G a C) (Rw G a (.int (-4)) C) := by
  refine Ct.of (own := RX7) (mn := "end") (L0 := [some (.ref (a + 105))]) (by decide +kernel) rfl rfl rfl (Nat.le_of_ble_eq_true rfl) rfl ?_
  refine V_aload_n dX7_end_0 rfl ?_
  refine V_bget dX7_end_1 fX7_7 (by decide) rfl (by (try simp only [mset_s, mset_n, pk_us, pk_un, ne_eq, Nat.reduceEqDiff, Nat.reduceAdd, not_false_eq_true, not_true_eq_false]) <;> rfl) ?_
  refine V_bipush (v := 32) dX7_end_4 (by decide) ?_
  refine V_biald dX7_end_6 (by decide) rfl (by repeat (first | with_reducible rfl | with_reducible exact nlit | with_reducible apply nadd | with_reducible apply nmul | with_reducible apply nsub | with_reducible assumption | omega)) (by omega) (by first | decide | omega) (by (try simp only [mset_s, mset_n, pk_us, pk_un, ne_eq, Nat.reduceEqDiff, Nat.reduceAdd, not_false_eq_true, not_true_eq_false]) <;> rfl) ?_
  rw [ho]
  refine V_if_ne dX7_end_7 (fun z => absurd z (fun z => z rfl)) (fun _ => ?_)
  refine V_bipush (v := (-4)) dX7_end_10 (by decide) ?_
  refine V_iret dX7_end_12 rfl rfl rfl ?_
  exact Rw_i rfl rfl
theorem op_record (hJ : JE C) : ∃ v : Int32, Ct G l yX6_record cX6_record 1 (some .int) 5 0 0 sz [.ref a] (B G a C) (Rx G a v (fun C' => Ct G l yX7_record cX7_record 2 (some .int) 2 0 0 sz [.ref (a + 105)] (B G a C') (Rx G a v JE))) := by
  obtain ⟨st, n, hJ⟩ := hJ
  obtain ⟨a1, a2, a3, a4, a5, -⟩ := id hJ
  obtain ⟨hd, tc, op, lc, b1, b2, b3, b4, b5, b6, b7, b8, b9, c1, c2, c3, c4, c5, c6, c7⟩ := stR_ex a5
  have a5' := a5
  obtain ⟨r1, -, r3⟩ := a5'
  rcases b7 with b7 | ⟨b7, b7'⟩
  · subst b7
    have c1' : C 1 0 = 0 := c1
    have hne : ¬ C 106 32 = 1 := by rw [c2]; decide
    have hm := fun (D : CT) (h6 : D 106 = C 106) (h5 : D 105 = C 105) => tX7_record (G := G) (l := l) (sz := sz) (a := a) (C := D) (st := st) (tc := tc) a1 (by rw [h5]; exact a4) (by rw [h6]; exact b9) b6
    by_cases h6 : tc = 6
    · subst h6
      refine ⟨-3, Rx_w (tX6_record_f c1' b8) ?_⟩
      have := hm C rfl rfl
      rw [if_neg hne, if_pos rfl, if_pos (Or.inr rfl)] at this
      exact Rx_w this ⟨st, n, hJ⟩
    · refine ⟨nI tc, Rx_p (tX6_record c1' b8 (by omega) a2 a1 a3) (fun C1 hP => ?_)⟩
      have hP1 := hP.1
      have lo : ∀ i, i < 16 → C1 i = C i := fun i hi => hP1 i (Or.inl hi)
      have hi : ∀ i, 78 ≤ i → C1 i = C i := fun i hi => hP1 i (Or.inr hi)
      obtain ⟨C2, hC2⟩ : ∃ C2, C2 = mset (mset C1 1 (upd (C1 1) 0 1)) 8 (upd (C1 8) tc 0) := ⟨_, rfl⟩
      have o1 : C2 1 = upd (C 1) 0 1 := by rw [hC2, mset_n (by decide), mset_s, lo 1 (by decide)]
      have o8 : C2 8 = upd (C 8) tc 0 := by rw [hC2, mset_s, lo 8 (by decide)]
      have on : ∀ i, i ≠ 1 → i ≠ 8 → C2 i = C1 i := fun i h1 h2 => by rw [hC2, mset_n h2, mset_n h1]
      rw [← hC2]
      have m1 := hm C2 (by rw [on 106 (by decide) (by decide), hi 106 (by decide)]) (by rw [on 105 (by decide) (by decide), hi 105 (by decide)])
      have e106 : C2 106 = C 106 := by rw [on 106 (by decide) (by decide), hi 106 (by decide)]
      rw [e106, if_neg hne, if_neg h6, if_neg (by rintro (z | z); exact hne z; exact h6 z)] at m1
      refine Rx_w m1 (JE_push hJ hP (fun i q1 q2 q3 => on i (by omega) (by omega)) (on 93 (by decide) (by decide)) (on 0 (by decide) (by decide)) (fun i hi2 => by rw [on i (by omega) (by omega), hi i (by omega)]) ⟨?_, ⟨tc, 1, b6, Or.inr ⟨rfl, by omega⟩, ?_, ?_, ?_, ?_, fun i hi => ?_⟩, lc, ?_⟩)
      · refine RoR_eq (fun j q1 q2 => by rw [o1, pk_un (by omega)]) (by rw [on 2 (by decide) (by decide), lo 2 (by decide)]) (by rw [on 3 (by decide) (by decide), lo 3 (by decide)]) (fun j hj => ?_) (fun j q1 q2 => ?_) r1
        · rw [zClr_n (by omega), pk_un (by omega)]
        · rw [zClr_n (by omega), pk_un (by omega)]
      · show C2 4 0 = nI tc
        rw [on 4 (by decide) (by decide), lo 4 (by decide), b8]
      · rw [zClr_n (by omega), pk_un (by decide), b9]
      · show C2 1 0 = nI 1
        rw [o1, pk_us]
        rfl
      · rw [zClr_n (by omega), pk_us]
        rfl
      · by_cases hit : i = tc
        · subst hit
          refine ⟨0, by decide, fun z => absurd z (by omega), ?_, ?_, fun k hk => absurd hk (by omega)⟩
          · show C2 8 i = nI 0
            rw [o8, pk_us]
            rfl
          · unfold zClr
            rw [if_pos (by omega)]
            rfl
        · obtain ⟨m, m1, m2, m3⟩ := c6 i (by omega)
          refine ⟨m, m1, m2, trR_cg m1 ?_ (fun k hk => ?_) (fun k hk => ?_) (fun j hj => ?_) m3⟩
          · show C2 8 i = C 8 i
            rw [o8, pk_un hit]
          · show C2 5 _ = C 5 _
            rw [on 5 (by decide) (by decide), lo 5 (by decide)]
          · show C2 6 _ = C 6 _
            rw [on 6 (by decide) (by decide), lo 6 (by decide)]
          · rw [zClr_n (by omega), pk_un (by omega)]
      · refine LpsR_eq (fun i q1 q2 => by rw [on i (by omega) (by omega), lo i (by omega)]) ?_ (fun j q1 q2 => ?_) ⟨c3, c4, c5, c7⟩
        · rw [zClr_n (by omega), pk_un (by decide)]
        · unfold zClr
          rw [if_neg (by omega), pk_un (by omega)]
  · subst b7
    have c1' : C 1 0 = 1 := c1
    have c2' : C 106 32 = 1 := c2
    refine ⟨-4, Rx_w (tX6_record_o c1') ?_⟩
    have m1 := tX7_record (G := G) (l := l) (sz := sz) (a := a) (C := C) (st := st) (tc := tc) a1 a4 b9 b6
    rw [if_pos c2', if_pos (Or.inl c2')] at m1
    exact Rx_w m1 ⟨st, n, hJ⟩
theorem op_end (hJ : JE C) : ∃ v : Int32, Ct G l yX6_end cX6_end 1 (some .int) 5 0 0 sz [.ref a] (B G a C) (Rx G a v (fun C' => Ct G l yX7_end cX7_end 1 (some .int) 2 0 0 sz [.ref (a + 105)] (B G a C') (Rx G a v JE))) := by
  obtain ⟨st, n, hJ⟩ := hJ
  obtain ⟨a1, a2, a3, a4, a5, -⟩ := id hJ
  obtain ⟨hd, tc, op, lc, b1, b2, b3, b4, b5, b6, b7, b8, b9, c1, c2, c3, c4, c5, c6, c7⟩ := stR_ex a5
  have a5' := a5
  obtain ⟨r1, -, r3⟩ := a5'
  rcases b7 with b7 | ⟨b7, b7'⟩
  · subst b7
    exact ⟨-4, Rx_w (tX6_end_o c1) (Rx_w (tX7_end_o c2) ⟨st, n, hJ⟩)⟩
  · subst b7
    obtain ⟨len, l1, -, l3⟩ := c6 tc (by omega)
    obtain ⟨l4, l5, l6⟩ := trR_ex l3
    refine ⟨if len = 0 then 100 else nI tc, Rx_p (tX6_end c1 b8 b7' l4 l1 a2 a1 a3) (fun C1 hP => ?_)⟩
    have hP1 := hP.1
    have lo : ∀ i, i < 16 → C1 i = C i := fun i hi => hP1 i (Or.inl hi)
    have hi : ∀ i, 78 ≤ i → C1 i = C i := fun i hi => hP1 i (Or.inr hi)
    have hne : ¬ C 106 32 = 0 := by rw [c2]; decide
    have hm := fun (D : CT) (h6 : D 106 = C 106) (h5 : D 105 = C 105) => tX7_end (G := G) (l := l) (sz := sz) (a := a) (C := D) (st := st) (tc := tc) (len := len) a1 (by rw [h5]; exact a4) (by rw [h6]; exact b9) b6 (by rw [h6]; exact l5) l1
    by_cases h0 : len = 0
    · simp only [if_pos h0] at hm ⊢
      obtain ⟨C2, hC2⟩ : ∃ C2, C2 = mset C1 1 (upd (C1 1) 0 0) := ⟨_, rfl⟩
      have o1 : C2 1 = upd (C 1) 0 0 := by rw [hC2, mset_s, lo 1 (by decide)]
      have on : ∀ i, i ≠ 1 → C2 i = C1 i := fun i h1 => by rw [hC2, mset_n h1]
      rw [← hC2]
      have e106 : C2 106 = C 106 := by rw [on 106 (by decide), hi 106 (by decide)]
      have m1 := hm C2 e106 (by rw [on 105 (by decide), hi 105 (by decide)])
      rw [e106, if_neg hne, if_neg hne] at m1
      refine Rx_w m1 (JE_push hJ hP (fun i q1 q2 q3 => on i (by omega)) (on 93 (by decide)) (on 0 (by decide)) (fun i hi2 => by rw [on i (by omega), hi i (by omega)]) ⟨?_, ⟨tc, 0, b6, Or.inl rfl, ?_, ?_, ?_, ?_, fun i hi => ?_⟩, lc, ?_⟩)
      · exact RoR_eq (fun j q1 q2 => by rw [o1, pk_un (by omega)]) (by rw [on 2 (by decide), lo 2 (by decide)]) (by rw [on 3 (by decide), lo 3 (by decide)]) (fun j hj => pk_un (by omega)) (fun j q1 q2 => pk_un (by omega)) r1
      · show C2 4 0 = nI tc
        rw [on 4 (by decide), lo 4 (by decide), b8]
      · rw [pk_un (by decide), b9]
      · show C2 1 0 = nI 0
        rw [o1, pk_us]
        rfl
      · rw [pk_us]
        rfl
      · obtain ⟨m, m1, m2, m3⟩ := c6 i (by omega)
        refine ⟨m, m1, m2, trR_cg m1 ?_ (fun k hk => ?_) (fun k hk => ?_) (fun j hj => pk_un (by omega)) m3⟩
        · show C2 8 i = C 8 i
          rw [on 8 (by decide), lo 8 (by decide)]
        · show C2 5 _ = C 5 _
          rw [on 5 (by decide), lo 5 (by decide)]
        · show C2 6 _ = C 6 _
          rw [on 6 (by decide), lo 6 (by decide)]
      · exact LpsR_eq (fun i q1 q2 => by rw [on i (by omega), lo i (by omega)]) (pk_un (by decide)) (fun j q1 q2 => pk_un (by omega)) ⟨c3, c4, c5, c7⟩
    · simp only [if_neg h0] at hm ⊢
      obtain ⟨C2, hC2⟩ : ∃ C2, C2 = mset (mset (mset C1 1 (upd (C1 1) 0 0)) 9 (upd (C1 9) tc 1)) 4 (upd (C1 4) 0 (nI (tc + 1))) := ⟨_, rfl⟩
      have o1 : C2 1 = upd (C 1) 0 0 := by rw [hC2, mset_n (by decide), mset_n (by decide), mset_s, lo 1 (by decide)]
      have o4 : C2 4 = upd (C 4) 0 (nI (tc + 1)) := by rw [hC2, mset_s, lo 4 (by decide)]
      have on : ∀ i, i ≠ 1 → i ≠ 4 → i ≠ 9 → C2 i = C1 i := fun i h1 h2 h3 => by rw [hC2, mset_n h2, mset_n h3, mset_n h1]
      rw [← hC2]
      have e106 : C2 106 = C 106 := by rw [on 106 (by decide) (by decide) (by decide), hi 106 (by decide)]
      have m1 := hm C2 e106 (by rw [on 105 (by decide) (by decide) (by decide), hi 105 (by decide)])
      rw [e106, if_neg hne, if_neg hne] at m1
      refine Rx_w m1 (JE_push hJ hP (fun i q1 q2 q3 => on i (by omega) (by omega) (by omega)) (on 93 (by decide) (by decide) (by decide)) (on 0 (by decide) (by decide) (by decide)) (fun i hi2 => by rw [on i (by omega) (by omega) (by omega), hi i (by omega)]) ⟨?_, ⟨tc + 1, 0, by omega, Or.inl rfl, ?_, ?_, ?_, ?_, fun i hi => ?_⟩, lc, ?_⟩)
      · exact RoR_eq (fun j q1 q2 => by rw [o1, pk_un (by omega)]) (by rw [on 2 (by decide) (by decide) (by decide), lo 2 (by decide)]) (by rw [on 3 (by decide) (by decide) (by decide), lo 3 (by decide)]) (fun j hj => by rw [pk_un (by omega), pk_un (by omega)]) (fun j q1 q2 => by rw [pk_un (by omega), pk_un (by omega)]) r1
      · show C2 4 0 = nI (tc + 1)
        rw [o4, pk_us]
      · rw [pk_us]
      · show C2 1 0 = nI 0
        rw [o1, pk_us]
        rfl
      · rw [pk_un (by decide), pk_us]
        rfl
      · have tr : ∀ m, m ≤ 12 → trR (bk C 1) (C 106) i m → trR (bk C2 1) (upd (upd (C 106) 32 0) 31 (nI (tc + 1))) i m := by
          intro m m1 m3
          refine trR_cg m1 ?_ (fun k hk => ?_) (fun k hk => ?_) (fun j hj => by rw [pk_un (by omega), pk_un (by omega)]) m3
          · show C2 8 i = C 8 i
            rw [on 8 (by decide) (by decide) (by decide), lo 8 (by decide)]
          · show C2 5 _ = C 5 _
            rw [on 5 (by decide) (by decide) (by decide), lo 5 (by decide)]
          · show C2 6 _ = C 6 _
            rw [on 6 (by decide) (by decide) (by decide), lo 6 (by decide)]
        by_cases hit : i = tc
        · subst hit
          exact ⟨len, l1, fun _ => by omega, tr len l1 l3⟩
        · obtain ⟨m, m1, m2, m3⟩ := c6 i (by omega)
          exact ⟨m, m1, fun _ => m2 (by omega), tr m m1 m3⟩
      · exact LpsR_eq (fun i q1 q2 => by rw [on i (by omega) (by omega) (by omega), lo i (by omega)]) (by rw [pk_un (by decide), pk_un (by decide)]) (fun j q1 q2 => by rw [pk_un (by omega), pk_un (by omega)]) ⟨c3, c4, c5, c7⟩
end CLS
