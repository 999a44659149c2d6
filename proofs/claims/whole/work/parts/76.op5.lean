/-! The calls on both sides: type, clearText, undo, keep, restore, perform. -/
theorem ex_nI (x0 : Int32) : ∃ s, x0 = nI s := ⟨x0.toUInt32.toNat, by
  apply Int32.toBitVec_inj.mp
  simp [nI, Int32.ofNat]⟩
theorem i2c_nar (w : Int32) : vp_nar .char ((w.toUInt32 % 65536).toInt32) = (w.toUInt32 % 65536).toInt32 := by
  show ((w.toUInt32 % 65536).toInt32.toUInt32 % 65536).toInt32 = _
  rw [UInt32.toUInt32_toInt32]
  congr 1
  apply UInt32.toNat_inj.mp
  simp
theorem i2c_nw (w : Int32) : narrow .char (.int ((w.toUInt32 % 65536).toInt32)) = .int ((w.toUInt32 % 65536).toInt32) := by
  show Value.int _ = Value.int _
  exact congrArg Value.int (i2c_nar w)
theorem exL_hd : ∀ (its : List (Nat × List TS)) (X : XS), (∀ i ∈ its, itOK i) → X.2.1 < 30 → (exL X its).2.1 < 30 := by
  intro its
  induction its with
  | nil => intro X _ h; exact h
  | cons i r ih =>
    intro X h hX
    exact ih (exI X i) (fun j hj => h j (List.mem_cons_of_mem _ hj)) (exI_hd hX (h i List.mem_cons_self))
section CLS
variable {G : GT} {l : Launch} {sz a : Nat} {C : CT}
theorem op_type (w x1 : Int32) (hw : (w.toUInt32 % 65536).toInt32 = x1) (hJ : JE C) : ∃ v : Int32, Ct G l yX6_type cX6_type 2 (some .int) 1 0 0 sz [.ref a, .int x1] (B G a C) (Rx G a v (fun C' => Ct G l yX7_type cX7_type 2 (some .int) 0 0 0 sz [.ref (a + 105), .int x1] (B G a C') (Rx G a v JE))) := by
  obtain ⟨st, n, hJ⟩ := hJ
  obtain ⟨a1, a2, a3, a4, a5, a6, a7, b1, b2, b3, b4, b5⟩ := id hJ
  have e1 : vp_nar .char x1 = x1 := by rw [← hw]; exact i2c_nar w
  have e2 : narrow .char (.int x1) = .int x1 := by rw [← hw]; exact i2c_nw w
  by_cases h60 : n = 60
  · subst h60
    exact ⟨-3, Rx_w (tX6_type_f b2) (Rx_w (tX7_type_f x1 b3) ⟨st, 60, hJ⟩)⟩
  · refine ⟨nI (n + 1), Rx_w (tX6_type b2 (by omega)) (Rx_w (tX7_type (n := n) x1 b3 (by omega)) ⟨st, n + 1, ?_⟩)⟩
    have e : ∀ i, i ≠ 93 → i ≠ 94 → i ≠ 105 → i ≠ 110 → mset (mset (tyC C n x1) 110 (upd (tyC C n x1 110) n x1)) 105 (upd (tyC C n x1 105) 2 (nI (n + 1))) i = C i := fun i q1 q2 q3 q4 => by
      rw [mset_n q3, mset_n q4]
      unfold tyC
      rw [mset_n q1, mset_n q2]
    have e105 : mset (mset (tyC C n x1) 110 (upd (tyC C n x1 110) n x1)) 105 (upd (tyC C n x1 105) 2 (nI (n + 1))) 105 = upd (C 105) 2 (nI (n + 1)) := by
      rw [mset_s]
      unfold tyC
      rw [mset_n (by decide), mset_n (by decide)]
    have e110 : mset (mset (tyC C n x1) 110 (upd (tyC C n x1 110) n x1)) 105 (upd (tyC C n x1 105) 2 (nI (n + 1))) 110 = upd (C 110) n x1 := by
      rw [mset_n (by decide), mset_s]
      unfold tyC
      rw [mset_n (by decide), mset_n (by decide)]
    have e94 : mset (mset (tyC C n x1) 110 (upd (tyC C n x1 110) n x1)) 105 (upd (tyC C n x1 105) 2 (nI (n + 1))) 94 = upd (C 94) n x1 := by
      rw [mset_n (by decide), mset_n (by decide)]
      unfold tyC
      rw [mset_n (by decide), mset_s, e1]
    have e93 : mset (mset (tyC C n x1) 110 (upd (tyC C n x1 110) n x1)) 105 (upd (tyC C n x1 105) 2 (nI (n + 1))) 93 0 = nI (n + 1) := by
      rw [mset_n (by decide), mset_n (by decide)]
      unfold tyC
      rw [mset_s, pk_us]
    generalize mset (mset (tyC C n x1) 110 (upd (tyC C n x1 110) n x1)) 105 (upd (tyC C n x1 105) 2 (nI (n + 1))) = D at e e105 e110 e94 e93
    have hb : ∀ i, hB D i = hB C i := fun i => by unfold hB hK; rw [e 17 (by decide) (by decide) (by decide) (by decide)]
    refine ⟨a1, HiK_cg a2 (e 17 (by decide) (by decide) (by decide) (by decide)), by rw [e 16 (by decide) (by decide) (by decide) (by decide), a3], by rw [e105, pk_un (by decide), a4], ?_, fun i hi => ?_, ?_, by omega, e93, by rw [e105, pk_us], fun j hj => ?_, fun j => ?_⟩
    · exact stR_ble (BlE_of fun i hi => e _ (by omega) (by omega) (by omega) (by omega)) (fun j _ => by rw [e 106 (by decide) (by decide) (by decide) (by decide)]) a5
    · have := hB_lt a2 (i := i) (by omega)
      rw [hb]
      exact stR_ble (BlE_of fun i hi => e _ (by omega) (by omega) (by omega) (by omega)) (fun j _ => by rw [e 108 (by decide) (by decide) (by decide) (by decide)]) (a6 i hi)
    · rcases a7 with ⟨q1, q2⟩ | ⟨q1, q2, q3⟩
      · exact Or.inl ⟨by rw [e 0 (by decide) (by decide) (by decide) (by decide), q1], by rw [e105, pk_un (by decide), q2]⟩
      · exact Or.inr ⟨by rw [e 0 (by decide) (by decide) (by decide) (by decide), q1], by rw [e105, pk_un (by decide), q2], stR_ble (BlE_of fun i hi => e _ (by omega) (by omega) (by omega) (by omega)) (fun j _ => by rw [e 109 (by decide) (by decide) (by decide) (by decide)]) q3⟩
    · rw [e94, e110]
      by_cases hjn : j = n
      · rw [hjn, pk_us, pk_us]
      · rw [pk_un hjn, pk_un hjn]
        exact b4 j (by omega)
    · rw [e94]
      by_cases hjn : j = n
      · rw [hjn, pk_us]
        exact e2
      · rw [pk_un hjn]
        exact b5 j
theorem op_clearText (hJ : JE C) : ∃ v : Int32, Ct G l yX6_clearText cX6_clearText 2 (some .int) 0 0 0 sz [.ref a] (B G a C) (Rx G a v (fun C' => Ct G l yX7_clearText cX7_clearText 2 (some .int) 0 0 0 sz [.ref (a + 105)] (B G a C') (Rx G a v JE))) := by
  obtain ⟨st, n, hJ⟩ := hJ
  obtain ⟨a1, a2, a3, a4, a5, a6, a7, b1, b2, b3, b4, b5⟩ := id hJ
  refine ⟨C 93 0, Rx_w tX6_clearText (Rx_we (by rw [mset_n (by decide), b2, b3]) tX7_clearText ⟨st, 0, ?_⟩)⟩
  have e : ∀ i, i ≠ 93 → i ≠ 105 → mset (mset C 93 (upd (C 93) 0 0)) 105 (upd (mset C 93 (upd (C 93) 0 0) 105) 2 0) i = C i := fun i q1 q3 => by rw [mset_n q3, mset_n q1]
  have e105 : mset (mset C 93 (upd (C 93) 0 0)) 105 (upd (mset C 93 (upd (C 93) 0 0) 105) 2 0) 105 = upd (C 105) 2 0 := by rw [mset_s, mset_n (by decide)]
  have e93 : mset (mset C 93 (upd (C 93) 0 0)) 105 (upd (mset C 93 (upd (C 93) 0 0) 105) 2 0) 93 0 = nI 0 := by rw [mset_n (by decide), mset_s, pk_us]; rfl
  generalize mset (mset C 93 (upd (C 93) 0 0)) 105 (upd (mset C 93 (upd (C 93) 0 0) 105) 2 0) = D at e e105 e93
  have hb : ∀ i, hB D i = hB C i := fun i => by unfold hB hK; rw [e 17 (by decide) (by decide)]
  refine ⟨a1, HiK_cg a2 (e 17 (by decide) (by decide)), by rw [e 16 (by decide) (by decide), a3], by rw [e105, pk_un (by decide), a4], ?_, fun i hi => ?_, ?_, by omega, e93, by rw [e105, pk_us]; rfl, fun j hj => by omega, fun j => by rw [e 94 (by decide) (by decide)]; exact b5 j⟩
  · exact stR_ble (BlE_of fun i hi => e _ (by omega) (by omega)) (fun j _ => by rw [e 106 (by decide) (by decide)]) a5
  · have := hB_lt a2 (i := i) (by omega)
    rw [hb]
    exact stR_ble (BlE_of fun i hi => e _ (by omega) (by omega)) (fun j _ => by rw [e 108 (by decide) (by decide)]) (a6 i hi)
  · rcases a7 with ⟨q1, q2⟩ | ⟨q1, q2, q3⟩
    · exact Or.inl ⟨by rw [e 0 (by decide) (by decide), q1], by rw [e105, pk_un (by decide), q2]⟩
    · exact Or.inr ⟨by rw [e 0 (by decide) (by decide), q1], by rw [e105, pk_un (by decide), q2], stR_ble (BlE_of fun i hi => e _ (by omega) (by omega)) (fun j _ => by rw [e 109 (by decide) (by decide)]) q3⟩
theorem op_undo (hJ : JE C) : ∃ v : Int32, Ct G l yX6_undo cX6_undo 1 (some .int) 5 0 0 sz [.ref a] (B G a C) (Rx G a v (fun C' => Ct G l yX7_undo cX7_undo 1 (some .int) 1 0 0 sz [.ref (a + 105)] (B G a C') (Rx G a v JE))) := by
  obtain ⟨st, n, hJ⟩ := hJ
  obtain ⟨a1, a2, a3, a4, a5, a6, a7, b1, b2, b3, b4, b5⟩ := id hJ
  by_cases h0 : st = 0
  · subst h0
    refine ⟨-5, Rx_w (tX6_undo_0 a3) ?_⟩
    have m1 := tX7_undo (G := G) (l := l) (sz := sz) (a := a) (C := C) (st := 0) a1 a4
    rw [if_pos rfl, if_pos rfl] at m1
    exact Rx_w m1 ⟨0, n, hJ⟩
  · have hl := hB_lt a2 (i := st - 1) (by omega)
    refine ⟨nI (st - 1), (tX6_undo a2 a3 a1 (by omega) (stR_op (a6 (st - 1) (by omega)))).weaken (fun r h' q => ?_)⟩
    obtain ⟨C', p1, p2, q1, q2, q3, q4⟩ := q
    refine ⟨C', p1, p2, ?_⟩
    have m1 := tX7_undo (G := G) (l := l) (sz := sz) (a := a) (C := C') (st := st) a1 (by rw [q1 105 (by decide) (by decide)]; exact a4)
    rw [if_neg h0, if_neg h0] at m1
    refine Rx_w m1 ⟨st - 1, n, ?_⟩
    have e : ∀ i, i ≠ 16 → 16 ≤ i → i ≠ 105 → i ≠ 106 → mUndo C' st i = C i := fun i w1 w2 w3 w4 => by unfold mUndo; rw [mset_n w4, mset_n w3, q1 i w1 w2]
    have e0 : ∀ i, i < 105 → mUndo C' st i = C' i := fun i w => by unfold mUndo; rw [mset_n (by omega), mset_n (by omega)]
    have e105 : mUndo C' st 105 = upd (C 105) 0 (nI (st - 1)) := by unfold mUndo; rw [mset_n (by decide), mset_s, q1 105 (by decide) (by decide)]
    have e106 : mUndo C' st 106 = va_cpy (C 108) (C 106) (441 * (st - 1)) 0 441 := by unfold mUndo; rw [mset_s, q1 108 (by decide) (by decide), q1 106 (by decide) (by decide)]
    generalize mUndo C' st = D at e e0 e105 e106
    have e17 : D 17 = C 17 := e 17 (by decide) (by decide) (by decide) (by decide)
    have hb : ∀ i, hB D i = hB C i := fun i => by unfold hB hK; rw [e17]
    refine ⟨by omega, HiK_cg a2 e17, by rw [e0 16 (by decide), q3], by rw [e105, pk_us], ?_, fun i hi => ?_, ?_, b1, by rw [e 93 (by decide) (by decide) (by decide) (by decide), b2], by rw [e105, pk_un (by decide), b3], fun j hj => by rw [e 94 (by decide) (by decide) (by decide) (by decide), e 110 (by decide) (by decide) (by decide) (by decide)]; exact b4 j hj, fun j => by rw [e 94 (by decide) (by decide) (by decide) (by decide)]; exact b5 j⟩
    · refine stR_ble (A := D) (s := 1) (fun i hi j hj => by rw [e0 _ (by omega)]; exact q4 i hi j hj) (fun j hj => ?_) (a6 (st - 1) (by omega))
      rw [e106]
      unfold va_cpy
      rw [if_pos (by omega)]
      exact congrArg (C 108) (by omega)
    · have := hB_lt a2 (i := i) (by omega)
      rw [hb]
      exact stR_ble (BlE_of fun i hi => e _ (by omega) (by omega) (by omega) (by omega)) (fun j _ => by rw [e 108 (by decide) (by decide) (by decide) (by decide)]) (a6 i (by omega))
    · have e00 : D 0 = C 0 := by rw [e0 0 (by decide), q2]
      rcases a7 with ⟨w1, w2⟩ | ⟨w1, w2, w3⟩
      · exact Or.inl ⟨by rw [e00, w1], by rw [e105, pk_un (by decide), w2]⟩
      · exact Or.inr ⟨by rw [e00, w1], by rw [e105, pk_un (by decide), w2], stR_ble (BlE_of fun i hi => e _ (by omega) (by omega) (by omega) (by omega)) (fun j _ => by rw [e 109 (by decide) (by decide) (by decide) (by decide)]) w3⟩
theorem op_keep (hJ : JE C) : ∃ v : Int32, Ct G l yX6_keep cX6_keep 1 (some .int) 4 0 0 sz [.ref a] (B G a C) (Rx G a v (fun C' => Ct G l yX7_keep cX7_keep 1 (some .int) 1 0 0 sz [.ref (a + 105)] (B G a C') (Rx G a v JE))) := by
  obtain ⟨st, n, hJ⟩ := hJ
  obtain ⟨a1, a2, a3, a4, a5, a6, a7, b1, b2, b3, b4, b5⟩ := id hJ
  obtain ⟨hd, tc, op, lc, -, -, -, -, -, -, -, d1, d2, -⟩ := stR_ex a5
  refine ⟨C 4 0, (tX6_keep (stR_op a5)).weaken (fun r h' q => ?_)⟩
  obtain ⟨C', p1, p2, q1, q2, q3⟩ := q
  refine ⟨C', p1, p2, ?_⟩
  refine Rx_we (by rw [q1 106 (by decide) (by decide), d1, d2]) (tX7_keep (C := C')) ⟨st, n, ?_⟩
  have e : ∀ i, i ≠ 0 → (i < 78 ∨ 93 ≤ i) → i ≠ 105 → i ≠ 109 → mKeep C' i = C i := fun i w1 w2 w3 w4 => by unfold mKeep; rw [mset_n w3, mset_n w4, q1 i w1 w2]
  have e0 : ∀ i, i < 105 → mKeep C' i = C' i := fun i w => by unfold mKeep; rw [mset_n (by omega), mset_n (by omega)]
  have e105 : mKeep C' 105 = upd (C 105) 1 1 := by unfold mKeep; rw [mset_s, q1 105 (by decide) (by decide)]
  have e109 : mKeep C' 109 = va_cpy (C 106) (C 109) 0 0 441 := by unfold mKeep; rw [mset_n (by decide), mset_s, q1 109 (by decide) (by decide), q1 106 (by decide) (by decide)]
  generalize mKeep C' = D at e e0 e105 e109
  have e17 : D 17 = C 17 := e 17 (by decide) (by decide) (by decide) (by decide)
  have hb : ∀ i, hB D i = hB C i := fun i => by unfold hB hK; rw [e17]
  refine ⟨a1, HiK_cg a2 e17, by rw [e 16 (by decide) (by decide) (by decide) (by decide), a3], by rw [e105, pk_un (by decide), a4], ?_, fun i hi => ?_, Or.inr ⟨by rw [e0 0 (by decide), q2], by rw [e105, pk_us], ?_⟩, b1, by rw [e 93 (by decide) (by decide) (by decide) (by decide), b2], by rw [e105, pk_un (by decide), b3], fun j hj => by rw [e 94 (by decide) (by decide) (by decide) (by decide), e 110 (by decide) (by decide) (by decide) (by decide)]; exact b4 j hj, fun j => by rw [e 94 (by decide) (by decide) (by decide) (by decide)]; exact b5 j⟩
  · exact stR_ble (BlE_of fun i hi => e _ (by omega) (by omega) (by omega) (by omega)) (fun j _ => by rw [e 106 (by decide) (by decide) (by decide) (by decide)]) a5
  · have := hB_lt a2 (i := i) (by omega)
    rw [hb]
    exact stR_ble (BlE_of fun i hi => e _ (by omega) (by omega) (by omega) (by omega)) (fun j _ => by rw [e 108 (by decide) (by decide) (by decide) (by decide)]) (a6 i hi)
  · refine stR_ble (A := D) (s := 78) (fun i hi j hj => by rw [e0 _ (by omega)]; exact q3 i hi j hj) (fun j hj => ?_) a5
    rw [e109, cpy_full hj]
theorem op_restore (hJ : JE C) : ∃ v : Int32, Ct G l yX6_restore cX6_restore 1 (some .int) 5 0 0 sz [.ref a] (B G a C) (Rx G a v (fun C' => Ct G l yX7_restore cX7_restore 1 (some .int) 2 0 0 sz [.ref (a + 105)] (B G a C') (Rx G a v JE))) := by
  obtain ⟨st, n, hJ⟩ := hJ
  obtain ⟨a1, a2, a3, a4, a5, a6, a7, b1, b2, b3, b4, b5⟩ := id hJ
  rcases a7 with ⟨w1, w2⟩ | ⟨w1, w2, w3⟩
  · refine ⟨-5, Rx_w (tX6_restore_o w1) ?_⟩
    have m1 := tX7_restore (G := G) (l := l) (sz := sz) (a := a) (C := C) (st := st) a1 a4
    rw [if_pos w2, if_pos w2] at m1
    exact Rx_w m1 ⟨st, n, hJ⟩
  · refine ⟨C 81 0, (tX6_restore w1 a2 a3 a1 (stR_op a5) (stR_op w3)).weaken (fun r h' q => ?_)⟩
    obtain ⟨C1, C', p1, p2, hP, q1, q2⟩ := q
    have hP1 := hP.1
    have e4 : C' 4 0 = C 81 0 := q2 3 (by decide) 0 (by decide)
    rw [e4] at p1
    refine ⟨C', p1, p2, ?_⟩
    have hi : ∀ i, 78 ≤ i → C' i = C i := fun i hi => by rw [q1 i (by omega), hP1 i (Or.inr hi)]
    have m1 := tX7_restore (G := G) (l := l) (sz := sz) (a := a) (C := C') (st := st) a1 (by rw [hi 105 (by decide)]; exact a4)
    have hne : ¬ C 105 1 = 0 := by rw [w2]; decide
    rw [hi 105 (by decide), if_neg hne, if_neg hne] at m1
    refine Rx_we ?_ m1 (JE_push hJ hP (fun i u1 u2 u3 => q1 i (by omega)) (q1 93 (by decide)) (q1 0 (by decide)) (fun i hi2 => hi i (by omega)) (stR_ble q2 (fun j hj => ?_) w3))
    · obtain ⟨-, ⟨tc, op, -, -, d1, d2, -⟩, -⟩ := w3
      rw [hi 109 (by decide), d2]
      exact d1.symm
    · rw [hi 109 (by decide), cpy_full hj]
theorem op_perform (hJ : JE C) : ∃ v : Int32, Ct G l yX6_perform cX6_perform 4 (some .int) 8 0 0 sz [.ref a] (B G a C) (Rx G a v (fun C' => Ct G l yX7_perform cX7_perform 2 (some .int) 6 0 0 sz [.ref (a + 105)] (B G a C') (Rx G a v JE))) := by
  obtain ⟨st, n, hJ⟩ := hJ
  obtain ⟨a1, a2, a3, a4, a5, a6, a7, b1, b2, b3, b4, b5⟩ := id hJ
  obtain ⟨hd, tc, op, lc, d1, d2, d3, d4, d5, d6, d7, d8, d9, c1, c2, c3, c4, c5, c6, c7⟩ := stR_ex a5
  obtain ⟨s, hs⟩ := ex_nI (C 105 3)
  obtain ⟨p, hp⟩ := ex_nI (C 105 4)
  have hch : chM C n = chC C n := by
    funext j
    unfold chM chC chF
    by_cases hj : j < n
    · rw [if_pos hj, if_pos hj, b4 j hj]
    · rw [if_neg hj, if_neg hj]
  have eqW : ∀ W, Txo C W → EqJ C W := fun W hW => ⟨fun i hi => hW.2 i (Or.inl hi), hW.2 94 (by omega), hW.1, fun j hj => by rw [hW.2 105 (by omega)], fun j hj => by rw [hW.2 106 (by omega)], hW.2 108 (by omega), hW.2 109 (by omega), hW.2 110 (by omega)⟩
  have hW5 : ∀ W, Txo C W → W 105 = C 105 := fun W hW => hW.2 105 (by omega)
  have hW6 : ∀ W, Txo C W → W 106 = C 106 := fun W hW => hW.2 106 (by omega)
  have hW10 : ∀ W, Txo C W → chM W n = chC C n := fun W hW => by rw [← hch]; unfold chM; rw [hW.2 110 (by omega)]
  obtain ⟨r, hr⟩ : ∃ r, r = pTxt (chC C n) n 60 0 [] := ⟨_, rfl⟩
  obtain ⟨ri, q⟩ := r
  cases ri with
  | none =>
    refine ⟨-100 - nI q, (tX6_perform_f hr.symm b5 b2 b1).weaken (fun r h' z => ?_)⟩
    obtain ⟨W, p1, p2, hW⟩ := z
    refine ⟨W, p1, p2, ?_⟩
    have m1 := tX7_perform_f (G := G) (l := l) (sz := sz) (a := a) (C := W) (n := n) (s := s) (p := p) (q := q) (by rw [hW5 W hW]; exact hs) (by rw [hW5 W hW]; exact hp) (by rw [hW5 W hW]; exact b3) b1 (c := C 3) (hd := hd) (by rw [hW6 W hW]; exact d4) (by rw [hW6 W hW]; exact d3) d1 (by rw [hW10 W hW]; exact hr.symm)
    exact Rx_s m1 (fun D hD => JE_SC hD ⟨st, n, JJ_eq hJ (eqW W hW)⟩)
  | some its =>
    rcases d7 with d7 | ⟨d7, d7'⟩
    · subst d7
      obtain ⟨XF, hXF⟩ : ∃ XF, XF = exL (C 3, hd, 0, 0, 0, C 1 4) its := ⟨_, rfl⟩
      have e37 : C 106 37 = C 1 4 := d5 3 (by decide)
      have oks : ∀ i ∈ its, itOK i := by
        obtain ⟨l2, e1, e2⟩ := pTxt_ok (ch := chC C n) chF_0 b1 60 0 [] its (by omega) (by rw [← hr])
        rw [List.nil_append] at e1
        rw [e1]
        exact e2
      have hXd : XF.2.1 < 30 := by rw [hXF]; exact exL_hd its _ oks d1
      have hc := tX6_perform (G := G) (l := l) (sz := sz) (a := a) (C := C) (n := n) (q := q) (st := st) (hd := hd) (its := its) hr.symm c1 b5 b2 b1 d2 d1 a2 a1 a3
      rw [← hXF] at hc
      refine ⟨XF.2.2.1, hc.weaken (fun r h' z => ?_)⟩
      obtain ⟨W, C1, Cf, p1, p2, hW, hP, hE⟩ := z
      refine ⟨Cf, p1, p2, ?_⟩
      have hP1 := hP.1
      obtain ⟨f0, f1, f2', f3, f4, f5, f6, f7⟩ := hE
      have hi : ∀ i, 102 ≤ i → Cf i = C i := fun i hi => by rw [f0 i (by omega) (by omega) (by omega) (by omega), hP1 i (Or.inr (by omega)), hW.2 i (by omega)]
      have lo : ∀ i, i < 16 → C1 i = C i := fun i hi => by rw [hP1 i (Or.inl hi), hW.2 i (by omega)]
      have hch2 : chM Cf n = chC C n := by rw [← hch]; unfold chM; rw [hi 110 (by decide)]
      have m1 := tX7_perform (G := G) (l := l) (sz := sz) (a := a) (C := Cf) (n := n) (s := s) (p := p) (q := q) (st := st) (its := its) a1 (by rw [hi 105 (by decide)]; exact a4) (by rw [hi 105 (by decide)]; exact hs) (by rw [hi 105 (by decide)]; exact hp) (by rw [hi 105 (by decide)]; exact b3) b1 (c := C 3) (hd := hd) (by rw [hi 106 (by decide)]; exact d4) (by rw [hi 106 (by decide)]; exact d3) d1 (by rw [hch2]; exact hr.symm) (by rw [hi 106 (by decide), c2]; decide)
      rw [hi 106 (by decide), e37, ← hXF] at m1
      refine Rx_s m1 (fun D hD => JE_SC hD (JE_push (JJ_eq hJ (eqW W hW)) hP (fun i u1 u2 u3 => f0 i (by omega) (by omega) (by omega) (by omega)) (f0 93 (by decide) (by decide) (by decide) (by decide)) (f0 0 (by decide) (by decide) (by decide) (by decide)) (fun i hi2 => by rw [hi i (by omega), hW.2 i (by omega)]) ⟨RoR_mk hXd f2' zXS_30 (fun j hj => by rw [zXS_c hj, f1]) (lt4 ?_ ?_ ?_ ?_), ⟨tc, 0, ?_⟩, lc, ?_⟩))
      · show zXS (C 106) XF 34 = Cf 1 1
        rw [zXS_34, f4, lo 1 (by decide)]
        exact congrArg (· + _) (d5 0 (by decide))
      · show zXS (C 106) XF 35 = Cf 1 2
        rw [zXS_35, f5, lo 1 (by decide)]
        exact congrArg (· + _) (d5 1 (by decide))
      · show zXS (C 106) XF 36 = Cf 1 3
        rw [zXS_36, f6, lo 1 (by decide)]
        exact congrArg (· + _) (d5 2 (by decide))
      · show zXS (C 106) XF 37 = Cf 1 4
        rw [zXS_37, f7]
      · exact TrsR_eq (by rw [f3, lo 1 (by decide)]) (fun i q1 q2 => by rw [f0 i (by omega) (by omega) (by omega) (by omega), lo i (by omega)]) (fun j q1 q2 => zXS_n (by omega) (by omega) (by omega) (by omega) (by omega)) (fun j q1 q2 => zXS_n (by omega) (by omega) (by omega) (by omega) (by omega)) ⟨d6, Or.inl rfl, d8, d9, c1, c2, c6⟩
      · exact LpsR_eq (fun i q1 q2 => by rw [f0 i (by omega) (by omega) (by omega) (by omega), lo i (by omega)]) (zXS_n (by omega) (by omega) (by omega) (by omega) (by omega)) (fun j q1 q2 => zXS_n (by omega) (by omega) (by omega) (by omega) (by omega)) ⟨c3, c4, c5, c7⟩
    · subst d7
      refine ⟨-4, (tX6_perform_n hr.symm c1 b5 b2 b1).weaken (fun r h' z => ?_)⟩
      obtain ⟨W, p1, p2, hW⟩ := z
      refine ⟨W, p1, p2, ?_⟩
      have m1 := tX7_perform_n (G := G) (l := l) (sz := sz) (a := a) (C := W) (n := n) (s := s) (p := p) (q := q) (its := its) (by rw [hW5 W hW]; exact hs) (by rw [hW5 W hW]; exact hp) (by rw [hW5 W hW]; exact b3) b1 (c := C 3) (hd := hd) (by rw [hW6 W hW]; exact d4) (by rw [hW6 W hW]; exact d3) d1 (by rw [hW10 W hW]; exact hr.symm) (by rw [hW6 W hW]; exact c2)
      exact Rx_s m1 (fun D hD => JE_SC hD ⟨st, n, JJ_eq hJ (eqW W hW)⟩)
end CLS
