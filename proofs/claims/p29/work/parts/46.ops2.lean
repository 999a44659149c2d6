/-! TryLoops: play, type, clearText, undo, keep, restore. -/
def Rkp (G : GT) (a : Nat) (C : CT) : Option Value → Hp → Prop := fun r h' => ∃ C', r = some (.int (C 4 0)) ∧ h' = B G a C' ∧ (∀ i, i ≠ 0 → (i < 78 ∨ 93 ≤ i) → C' i = C i) ∧ C' 0 0 = 1 ∧ BlE C' 78 C 1
def Rrs (G : GT) (a : Nat) (C : CT) (n : Nat) : Option Value → Hp → Prop := fun r h' => ∃ C1 C', r = some (.int (C' 4 0)) ∧ h' = B G a C' ∧ Pu C n C1 ∧ (∀ i, (i < 1 ∨ 16 ≤ i) → C' i = C1 i) ∧ BlE C' 1 C 78
def Run (G : GT) (a : Nat) (C : CT) (n : Nat) : Option Value → Hp → Prop := fun r h' => ∃ C', r = some (.int (nI (n - 1))) ∧ h' = B G a C' ∧ (∀ i, i ≠ 16 → 16 ≤ i → C' i = C i) ∧ C' 0 = C 0 ∧ C' 16 0 = nI (n - 1) ∧ BlE C' 1 C (hB C (n - 1))
section CLS
variable {G : GT} {l : Launch} {sz a : Nat} {C : CT}
theorem tX6_clearText : Ct G l yX6_clearText cX6_clearText 2 (some .int) 0 0 0 sz [.ref a] (B G a C) (Rw G a (.int (C 93 0)) (mset C 93 (upd (C 93) 0 0))) := by
  refine Ct.of (own := RX6) (mn := "clearText") (L0 := [some (.ref (a + 0)), none]) (by decide +kernel) rfl rfl rfl (Nat.le_of_ble_eq_true rfl) rfl ?_
  refine V_aload_n dX6_clearText_0 rfl ?_
  refine V_bget dX6_clearText_1 fX6_29 (by decide) rfl (by (try simp only [mset_s, mset_n, pk_us, pk_un, ne_eq, Nat.reduceEqDiff, Nat.reduceAdd, not_false_eq_true, not_true_eq_false]) <;> rfl) ?_
  refine V_bget dX6_clearText_4 fX6_145 (by decide) rfl (by (try simp only [mset_s, mset_n, pk_us, pk_un, ne_eq, Nat.reduceEqDiff, Nat.reduceAdd, not_false_eq_true, not_true_eq_false]) <;> rfl) ?_
  refine V_istore_n dX6_clearText_7 (by decide) (by dsimp only [List.set] <;> rfl) rfl ?_
  refine V_aload_n dX6_clearText_8 rfl ?_
  refine V_bget dX6_clearText_9 fX6_29 (by decide) rfl (by (try simp only [mset_s, mset_n, pk_us, pk_un, ne_eq, Nat.reduceEqDiff, Nat.reduceAdd, not_false_eq_true, not_true_eq_false]) <;> rfl) ?_
  refine V_iconst (v := 0) dX6_clearText_12 (by decide) ?_
  refine V_bputi (i0 := 0) dX6_clearText_13 fX6_145 (by decide) rfl rfl rfl (Nat.le_of_ble_eq_true rfl) rfl ?_
  refine V_iload_n dX6_clearText_16 rfl ?_
  refine V_iret dX6_clearText_17 rfl rfl rfl ?_
  exact Rw_i rfl rfl
theorem tX6_undo_0 (h0 : C 16 0 = 0) : Ct G l yX6_undo cX6_undo 1 (some .int) 5 0 0 sz [.ref a] (B G a C) (Rw G a (.int (-5)) C) := by
  refine Ct.of (own := RX6) (mn := "undo") (L0 := [some (.ref (a + 0))]) (by decide +kernel) rfl rfl rfl (Nat.le_of_ble_eq_true rfl) rfl ?_
  refine V_aload_n dX6_undo_0 rfl ?_
  refine V_bget dX6_undo_1 fX6_19 (by decide) rfl (by (try simp only [mset_s, mset_n, pk_us, pk_un, ne_eq, Nat.reduceEqDiff, Nat.reduceAdd, not_false_eq_true, not_true_eq_false]) <;> rfl) ?_
  refine V_aload_n dX6_undo_4 rfl ?_
  refine V_bget dX6_undo_5 fX6_12 (by decide) rfl (by (try simp only [mset_s, mset_n, pk_us, pk_un, ne_eq, Nat.reduceEqDiff, Nat.reduceAdd, not_false_eq_true, not_true_eq_false]) <;> rfl) ?_
  refine V_callVw dX6_undo_8 kX6_164 ykX0_pop (by decide) rfl rfl (tX0_pop_0 h0) rfl (Nat.le_of_ble_eq_true rfl) ⟨by decide, by decide, by decide, by decide⟩ ?_
  refine V_if_eq dX6_undo_11 (fun _ => ?_) (fun z => absurd rfl z)
  refine V_bipush (v := (-5)) dX6_undo_24 (by decide) ?_
  refine V_iret dX6_undo_26 rfl rfl rfl ?_
  exact Rw_i rfl rfl
theorem tX6_undo {n : Nat} (hi : HiK C) (h0 : C 16 0 = nI n) (hn : n ≤ 4) (hn0 : 0 < n) (hop : C (hB C (n - 1)) 0 = 0 ∨ C (hB C (n - 1)) 0 = 1) : Ct G l yX6_undo cX6_undo 1 (some .int) 5 0 0 sz [.ref a] (B G a C) (Run G a C n) := by
  refine Ct.of (own := RX6) (mn := "undo") (L0 := [some (.ref (a + 0))]) (by decide +kernel) rfl rfl rfl (Nat.le_of_ble_eq_true rfl) rfl ?_
  refine V_aload_n dX6_undo_0 rfl ?_
  refine V_bget dX6_undo_1 fX6_19 (by decide) rfl (by (try simp only [mset_s, mset_n, pk_us, pk_un, ne_eq, Nat.reduceEqDiff, Nat.reduceAdd, not_false_eq_true, not_true_eq_false]) <;> rfl) ?_
  refine V_aload_n dX6_undo_4 rfl ?_
  refine V_bget dX6_undo_5 fX6_12 (by decide) rfl (by (try simp only [mset_s, mset_n, pk_us, pk_un, ne_eq, Nat.reduceEqDiff, Nat.reduceAdd, not_false_eq_true, not_true_eq_false]) <;> rfl) ?_
  refine V_callV dX6_undo_8 kX6_164 ykX0_pop (B_at (by decide) rfl) rfl (tX0_pop hi h0 hn hn0 hop) rfl (Nat.le_of_ble_eq_true rfl) ⟨by decide, by decide, by decide, by decide⟩ ?_
  intro r h' hq
  obtain ⟨C1, rfl, rfl, q1, q2, q3, q4⟩ := hq
  show V G l RX6 "undo" cX6_undo 1 (some .int) (rmd 5 0 0) E0 (Qm G (Run G a C n) sz 0 0) sz 0 0 11 [some (.ref (a + 0))] [.int 1] (B G a C1)
  refine V_if_eq dX6_undo_11 (fun z => absurd z (by decide)) (fun _ => ?_)
  refine V_aload_n dX6_undo_14 rfl ?_
  refine V_bget dX6_undo_15 fX6_19 (by decide) rfl (by (try simp only [mset_s, mset_n, pk_us, pk_un, ne_eq, Nat.reduceEqDiff, Nat.reduceAdd, not_false_eq_true, not_true_eq_false]) <;> rfl) ?_
  refine V_bget dX6_undo_18 fX6_168 (by decide) rfl (by (try simp only [mset_s, mset_n, pk_us, pk_un, ne_eq, Nat.reduceEqDiff, Nat.reduceAdd, not_false_eq_true, not_true_eq_false]) <;> rfl) ?_
  refine V_goto dX6_undo_21 ?_
  refine V_iret dX6_undo_26 rfl rfl rfl ?_
  exact ⟨C1, by rw [q3], rfl, q1, q2, q3, q4⟩
theorem tX6_keep (hop : C 1 0 = 0 ∨ C 1 0 = 1) : Ct G l yX6_keep cX6_keep 1 (some .int) 4 0 0 sz [.ref a] (B G a C) (Rkp G a C) := by
  refine Ct.of (own := RX6) (mn := "keep") (L0 := [some (.ref (a + 0))]) (by decide +kernel) rfl rfl rfl (Nat.le_of_ble_eq_true rfl) rfl ?_
  refine V_aload_n dX6_keep_0 rfl ?_
  refine V_bget dX6_keep_1 fX6_23 (by decide) rfl (by (try simp only [mset_s, mset_n, pk_us, pk_un, ne_eq, Nat.reduceEqDiff, Nat.reduceAdd, not_false_eq_true, not_true_eq_false]) <;> rfl) ?_
  refine V_aload_n dX6_keep_4 rfl ?_
  refine V_bget dX6_keep_5 fX6_12 (by decide) rfl (by (try simp only [mset_s, mset_n, pk_us, pk_un, ne_eq, Nat.reduceEqDiff, Nat.reduceAdd, not_false_eq_true, not_true_eq_false]) <;> rfl) ?_
  refine V_callV dX6_keep_8 kX6_169 ykX4_copyFrom (B_at (by decide) rfl) rfl (tX4_copyFrom (s := 78) (s' := 1) stk78 stk1 (by decide) hop) rfl (Nat.le_of_ble_eq_true rfl) ⟨by decide, by decide, by decide, by decide⟩ ?_
  intro r h' hq
  obtain ⟨C1, rfl, rfl, q1, q2⟩ := hq
  show V G l RX6 "keep" cX6_keep 1 (some .int) (rmd 4 0 0) E0 (Qm G (Rkp G a C) sz 0 0) sz 0 0 11 [some (.ref (a + 0))] [] (B G a C1)
  refine V_aload_n dX6_keep_11 rfl ?_
  refine V_iconst (v := 1) dX6_keep_12 (by decide) ?_
  refine V_bputi (i0 := 0) dX6_keep_13 fX6_172 (by decide) rfl (by first | rfl | exact bI_nar) (by first | rfl | exact bI_fit) (Nat.le_of_ble_eq_true rfl) rfl ?_
  refine V_aload_n dX6_keep_16 rfl ?_
  refine V_bget dX6_keep_17 fX6_12 (by decide) rfl (by (try simp only [mset_s, mset_n, pk_us, pk_un, ne_eq, Nat.reduceEqDiff, Nat.reduceAdd, not_false_eq_true, not_true_eq_false]) <;> rfl) ?_
  refine V_bget dX6_keep_20 fX6_74 (by decide) rfl (by (try simp only [mset_s, mset_n, pk_us, pk_un, ne_eq, Nat.reduceEqDiff, Nat.reduceAdd, not_false_eq_true, not_true_eq_false]) <;> rfl) ?_
  refine V_bget dX6_keep_23 fX6_78 (by decide) rfl (by (try simp only [mset_s, mset_n, pk_us, pk_un, ne_eq, Nat.reduceEqDiff, Nat.reduceAdd, not_false_eq_true, not_true_eq_false]) <;> rfl) ?_
  refine V_iret dX6_keep_26 rfl rfl rfl ?_
  refine ⟨_, ?_, rfl, fun i h1 h2 => ?_, ?_, ?_⟩
  · rw [q1 4 (by decide)]
  · rw [mset_n h1]; exact q1 i (by omega)
  · rw [mset_s]; rfl
  · intro i hi j hj
    rw [mset_n (by omega)]
    exact q2 i hi j hj
theorem tX6_restore_o (h0 : C 0 0 = 0) : Ct G l yX6_restore cX6_restore 1 (some .int) 5 0 0 sz [.ref a] (B G a C) (Rw G a (.int (-5)) C) := by
  refine Ct.of (own := RX6) (mn := "restore") (L0 := [some (.ref (a + 0))]) (by decide +kernel) rfl rfl rfl (Nat.le_of_ble_eq_true rfl) rfl ?_
  refine V_aload_n dX6_restore_0 rfl ?_
  refine V_bget dX6_restore_1 fX6_172 (by decide) rfl (by (try simp only [mset_s, mset_n, pk_us, pk_un, ne_eq, Nat.reduceEqDiff, Nat.reduceAdd, not_false_eq_true, not_true_eq_false]) <;> rfl) ?_
  rw [h0]
  refine V_if_ne dX6_restore_4 (fun z => absurd z (fun z => z rfl)) (fun _ => ?_)
  refine V_bipush (v := (-5)) dX6_restore_7 (by decide) ?_
  refine V_iret dX6_restore_9 rfl rfl rfl ?_
  exact Rw_i rfl rfl
theorem tX6_restore {n : Nat} (h0 : C 0 0 = 1) (hi : HiK C) (h16 : C 16 0 = nI n) (hn : n ≤ 4) (hop : C 1 0 = 0 ∨ C 1 0 = 1) (hop2 : C 78 0 = 0 ∨ C 78 0 = 1) : Ct G l yX6_restore cX6_restore 1 (some .int) 5 0 0 sz [.ref a] (B G a C) (Rrs G a C n) := by
  refine Ct.of (own := RX6) (mn := "restore") (L0 := [some (.ref (a + 0))]) (by decide +kernel) rfl rfl rfl (Nat.le_of_ble_eq_true rfl) rfl ?_
  refine V_aload_n dX6_restore_0 rfl ?_
  refine V_bget dX6_restore_1 fX6_172 (by decide) rfl (by (try simp only [mset_s, mset_n, pk_us, pk_un, ne_eq, Nat.reduceEqDiff, Nat.reduceAdd, not_false_eq_true, not_true_eq_false]) <;> rfl) ?_
  rw [h0]
  refine V_if_ne dX6_restore_4 (fun _ => ?_) (fun z => absurd z ((by decide)))
  refine V_aload_n dX6_restore_10 rfl ?_
  refine V_bget dX6_restore_11 fX6_19 (by decide) rfl (by (try simp only [mset_s, mset_n, pk_us, pk_un, ne_eq, Nat.reduceEqDiff, Nat.reduceAdd, not_false_eq_true, not_true_eq_false]) <;> rfl) ?_
  refine V_aload_n dX6_restore_14 rfl ?_
  refine V_bget dX6_restore_15 fX6_12 (by decide) rfl (by (try simp only [mset_s, mset_n, pk_us, pk_un, ne_eq, Nat.reduceEqDiff, Nat.reduceAdd, not_false_eq_true, not_true_eq_false]) <;> rfl) ?_
  refine V_callV dX6_restore_18 kX6_67 ykX0_push (B_at (by decide) rfl) rfl (tX0_push hi h16 hn hop) rfl (Nat.le_of_ble_eq_true rfl) ⟨by decide, by decide, by decide, by decide⟩ ?_
  intro r h' hq
  obtain ⟨C1, rfl, rfl, hP⟩ := hq
  have hP1 := hP.1
  show V G l RX6 "restore" cX6_restore 1 (some .int) (rmd 5 0 0) E0 (Qm G (Rrs G a C n) sz 0 0) sz 0 0 21 [some (.ref (a + 0))] [] (B G a C1)
  refine V_aload_n dX6_restore_21 rfl ?_
  refine V_bget dX6_restore_22 fX6_12 (by decide) rfl (by (try simp only [mset_s, mset_n, pk_us, pk_un, ne_eq, Nat.reduceEqDiff, Nat.reduceAdd, not_false_eq_true, not_true_eq_false]) <;> rfl) ?_
  refine V_aload_n dX6_restore_25 rfl ?_
  refine V_bget dX6_restore_26 fX6_23 (by decide) rfl (by (try simp only [mset_s, mset_n, pk_us, pk_un, ne_eq, Nat.reduceEqDiff, Nat.reduceAdd, not_false_eq_true, not_true_eq_false]) <;> rfl) ?_
  refine V_callV dX6_restore_29 kX6_169 ykX4_copyFrom (B_at (by decide) rfl) rfl (tX4_copyFrom (s := 1) (s' := 78) stk1 stk78 (by decide) (by rw [hP1 78 (by decide)]; exact hop2)) rfl (Nat.le_of_ble_eq_true rfl) ⟨by decide, by decide, by decide, by decide⟩ ?_
  intro r h' hq
  obtain ⟨C2, rfl, rfl, q1, q2⟩ := hq
  show V G l RX6 "restore" cX6_restore 1 (some .int) (rmd 5 0 0) E0 (Qm G (Rrs G a C n) sz 0 0) sz 0 0 32 [some (.ref (a + 0))] [] (B G a C2)
  refine V_aload_n dX6_restore_32 rfl ?_
  refine V_bget dX6_restore_33 fX6_12 (by decide) rfl (by (try simp only [mset_s, mset_n, pk_us, pk_un, ne_eq, Nat.reduceEqDiff, Nat.reduceAdd, not_false_eq_true, not_true_eq_false]) <;> rfl) ?_
  refine V_bget dX6_restore_36 fX6_74 (by decide) rfl (by (try simp only [mset_s, mset_n, pk_us, pk_un, ne_eq, Nat.reduceEqDiff, Nat.reduceAdd, not_false_eq_true, not_true_eq_false]) <;> rfl) ?_
  refine V_bget dX6_restore_39 fX6_78 (by decide) rfl (by (try simp only [mset_s, mset_n, pk_us, pk_un, ne_eq, Nat.reduceEqDiff, Nat.reduceAdd, not_false_eq_true, not_true_eq_false]) <;> rfl) ?_
  refine V_iret dX6_restore_42 rfl rfl rfl ?_
  refine ⟨C1, C2, rfl, rfl, hP, fun i h => q1 i h, ?_⟩
  intro i h1 j h2
  rw [q2 i h1 j h2, hP1 _ (by omega)]
theorem tX6_play_x {lc : Nat} (v : Int32) (h4 : C 10 0 = nI lc) (hlc : lc ≤ 6) (hx : ¬ isIx v lc) : Ct G l yX6_play cX6_play 2 (some .int) 6 0 0 sz [.ref a, .int v] (B G a C) (Rw G a (.int (-1)) C) := by
  refine Ct.of (own := RX6) (mn := "play") (L0 := [some (.ref (a + 0)), some (.int v)]) (by decide +kernel) rfl rfl rfl (Nat.le_of_ble_eq_true rfl) rfl ?_
  refine V_aload_n dX6_play_0 rfl ?_
  refine V_bget dX6_play_1 fX6_12 (by decide) rfl (by (try simp only [mset_s, mset_n, pk_us, pk_un, ne_eq, Nat.reduceEqDiff, Nat.reduceAdd, not_false_eq_true, not_true_eq_false]) <;> rfl) ?_
  refine V_bget dX6_play_4 fX6_115 (by decide) rfl (by (try simp only [mset_s, mset_n, pk_us, pk_un, ne_eq, Nat.reduceEqDiff, Nat.reduceAdd, not_false_eq_true, not_true_eq_false]) <;> rfl) ?_
  refine V_iload_n dX6_play_7 rfl ?_
  refine V_callVw dX6_play_8 kX6_105 ykX3_holds (by decide) rfl rfl (tX3_holds (q := 10) (cnt := lc) stk1.sh9 h4 (by omega)) rfl (Nat.le_of_ble_eq_true rfl) ⟨by decide, by decide, by decide, by decide⟩ ?_
  refine V_if_ne dX6_play_11 (fun z => absurd z (fun z => z (bI_f hx))) (fun _ => ?_)
  refine V_iconst (v := (-1)) dX6_play_14 (by decide) ?_
  refine V_iret dX6_play_15 rfl rfl rfl ?_
  exact Rw_i rfl rfl
theorem tX6_play_o {lc n : Nat} (h4 : C 10 0 = nI lc) (hlc : lc ≤ 6) (hn : n < lc) (ho : C 1 0 = 1) : Ct G l yX6_play cX6_play 2 (some .int) 6 0 0 sz [.ref a, .int (nI n)] (B G a C) (Rw G a (.int (-4)) C) := by
  have e : isIx (nI n) lc := by unfold isIx; rw [nI_toInt (by omega)]; omega
  refine Ct.of (own := RX6) (mn := "play") (L0 := [some (.ref (a + 0)), some (.int (nI n))]) (by decide +kernel) rfl rfl rfl (Nat.le_of_ble_eq_true rfl) rfl ?_
  refine V_aload_n dX6_play_0 rfl ?_
  refine V_bget dX6_play_1 fX6_12 (by decide) rfl (by (try simp only [mset_s, mset_n, pk_us, pk_un, ne_eq, Nat.reduceEqDiff, Nat.reduceAdd, not_false_eq_true, not_true_eq_false]) <;> rfl) ?_
  refine V_bget dX6_play_4 fX6_115 (by decide) rfl (by (try simp only [mset_s, mset_n, pk_us, pk_un, ne_eq, Nat.reduceEqDiff, Nat.reduceAdd, not_false_eq_true, not_true_eq_false]) <;> rfl) ?_
  refine V_iload_n dX6_play_7 rfl ?_
  refine V_callVw dX6_play_8 kX6_105 ykX3_holds (by decide) rfl rfl (tX3_holds (q := 10) (cnt := lc) stk1.sh9 h4 (by omega)) rfl (Nat.le_of_ble_eq_true rfl) ⟨by decide, by decide, by decide, by decide⟩ ?_
  refine V_if_ne dX6_play_11 (fun _ => ?_) (fun z => absurd z ((bI_ne0.mpr e)))
  refine V_aload_n dX6_play_16 rfl ?_
  refine V_bget dX6_play_17 fX6_12 (by decide) rfl (by (try simp only [mset_s, mset_n, pk_us, pk_un, ne_eq, Nat.reduceEqDiff, Nat.reduceAdd, not_false_eq_true, not_true_eq_false]) <;> rfl) ?_
  refine V_bget dX6_play_20 fX6_59 (by decide) rfl (by (try simp only [mset_s, mset_n, pk_us, pk_un, ne_eq, Nat.reduceEqDiff, Nat.reduceAdd, not_false_eq_true, not_true_eq_false]) <;> rfl) ?_
  rw [ho]
  refine V_if_eq dX6_play_23 (fun z => absurd z (by decide)) (fun _ => ?_)
  refine V_bipush (v := (-4)) dX6_play_26 (by decide) ?_
  refine V_iret dX6_play_28 rfl rfl rfl ?_
  exact Rw_i rfl rfl
theorem shv_cg {C C1 : CT} {p W n : Nat} (h : C1 (p + 1) = C (p + 1)) : shv C1 p W n = shv C p W n := by funext k; unfold shv; rw [h]
theorem shn_cg {C C1 : CT} {p W n : Nat} (h : C1 (p + 2) = C (p + 2)) : shn C1 p W n = shn C p W n := by funext k; unfold shn; rw [h]
theorem sht_cg {C C1 : CT} {p W n : Nat} (h : C1 (p + 3) = C (p + 3)) : sht C1 p W n = sht C p W n := by funext k; unfold sht; rw [h]
set_option maxHeartbeats 4000000 in
theorem tX6_play {lc n st hd size T : Nat} (h4 : C 10 0 = nI lc) (hlc : lc ≤ 6) (hn : n < lc) (ho : C 1 0 = 0) (h0 : C 2 0 = nI hd) (hhd : hd < 30) (hsz : C 14 n = nI size) (hs : size ≤ 12) (hT : C 15 n = nI T) (hT2 : T < 1000) (hi : HiK C) (hst : st ≤ 4) (h16 : C 16 0 = nI st) : Ct G l yX6_play cX6_play 2 (some .int) 6 0 0 sz [.ref a, .int (nI n)] (B G a C) (Rp G a (.int (plBody (shv C 10 12 n) (shn C 10 12 n) (sht C 10 12 n) size T 0 (C 3, hd, 0, 0)).1.2.2.1) C st (fun C1 => plC C1 (plBody (shv C 10 12 n) (shn C 10 12 n) (sht C 10 12 n) size T 0 (C 3, hd, 0, 0)))) := by
  have e : isIx (nI n) lc := by unfold isIx; rw [nI_toInt (by omega)]; omega
  refine Ct.of (own := RX6) (mn := "play") (L0 := [some (.ref (a + 0)), some (.int (nI n))]) (by decide +kernel) rfl rfl rfl (Nat.le_of_ble_eq_true rfl) rfl ?_
  refine V_aload_n dX6_play_0 rfl ?_
  refine V_bget dX6_play_1 fX6_12 (by decide) rfl (by (try simp only [mset_s, mset_n, pk_us, pk_un, ne_eq, Nat.reduceEqDiff, Nat.reduceAdd, not_false_eq_true, not_true_eq_false]) <;> rfl) ?_
  refine V_bget dX6_play_4 fX6_115 (by decide) rfl (by (try simp only [mset_s, mset_n, pk_us, pk_un, ne_eq, Nat.reduceEqDiff, Nat.reduceAdd, not_false_eq_true, not_true_eq_false]) <;> rfl) ?_
  refine V_iload_n dX6_play_7 rfl ?_
  refine V_callVw dX6_play_8 kX6_105 ykX3_holds (by decide) rfl rfl (tX3_holds (q := 10) (cnt := lc) stk1.sh9 h4 (by omega)) rfl (Nat.le_of_ble_eq_true rfl) ⟨by decide, by decide, by decide, by decide⟩ ?_
  refine V_if_ne dX6_play_11 (fun _ => ?_) (fun z => absurd z ((bI_ne0.mpr e)))
  refine V_aload_n dX6_play_16 rfl ?_
  refine V_bget dX6_play_17 fX6_12 (by decide) rfl (by (try simp only [mset_s, mset_n, pk_us, pk_un, ne_eq, Nat.reduceEqDiff, Nat.reduceAdd, not_false_eq_true, not_true_eq_false]) <;> rfl) ?_
  refine V_bget dX6_play_20 fX6_59 (by decide) rfl (by (try simp only [mset_s, mset_n, pk_us, pk_un, ne_eq, Nat.reduceEqDiff, Nat.reduceAdd, not_false_eq_true, not_true_eq_false]) <;> rfl) ?_
  rw [ho]
  refine V_if_eq dX6_play_23 (fun _ => ?_) (fun z => absurd rfl z)
  refine V_aload_n dX6_play_29 rfl ?_
  refine V_bget dX6_play_30 fX6_19 (by decide) rfl (by (try simp only [mset_s, mset_n, pk_us, pk_un, ne_eq, Nat.reduceEqDiff, Nat.reduceAdd, not_false_eq_true, not_true_eq_false]) <;> rfl) ?_
  refine V_aload_n dX6_play_33 rfl ?_
  refine V_bget dX6_play_34 fX6_12 (by decide) rfl (by (try simp only [mset_s, mset_n, pk_us, pk_un, ne_eq, Nat.reduceEqDiff, Nat.reduceAdd, not_false_eq_true, not_true_eq_false]) <;> rfl) ?_
  refine V_callV dX6_play_37 kX6_67 ykX0_push (B_at (by decide) rfl) rfl (tX0_push hi h16 hst (Or.inl ho)) rfl (Nat.le_of_ble_eq_true rfl) ⟨by decide, by decide, by decide, by decide⟩ ?_
  intro r h' hq
  obtain ⟨C1, rfl, rfl, hP⟩ := hq
  have hP1 := hP.1
  have c : ∀ i, i < 16 → C1 i = C i := fun i h => hP1 i (Or.inl h)
  show V G l RX6 "play" cX6_play 2 (some .int) (rmd 6 0 0) E0 (Qm G (Rp G a (.int (plBody (shv C 10 12 n) (shn C 10 12 n) (sht C 10 12 n) size T 0 (C 3, hd, 0, 0)).1.2.2.1) C st (fun C1 => plC C1 (plBody (shv C 10 12 n) (shn C 10 12 n) (sht C 10 12 n) size T 0 (C 3, hd, 0, 0)))) sz 0 0) sz 0 0 40 [some (.ref (a + 0)), some (.int (nI n))] [] (B G a C1)
  have ct := tX4_playLoop (G := G) (l := l) (sz := sz + 0 + 0) (a := a) (C := C1) (p := 10) (W := 12) (N := 6) (n := n) (size := size) (T := T) (hd := hd) (c := C 3) stk1.sh9 (by decide) (by decide) (c 3 (by decide)) (by rw [c 2 (by decide)]; exact h0) hhd (by omega) (by rw [c 14 (by decide)]; exact hsz) hs (by rw [c 15 (by decide)]; exact hT) (by omega)
  rw [shv_cg (c 11 (by decide)), shn_cg (c 12 (by decide)), sht_cg (c 13 (by decide))] at ct
  refine V_aload_n dX6_play_40 rfl ?_
  refine V_bget dX6_play_41 fX6_12 (by decide) rfl (by (try simp only [mset_s, mset_n, pk_us, pk_un, ne_eq, Nat.reduceEqDiff, Nat.reduceAdd, not_false_eq_true, not_true_eq_false]) <;> rfl) ?_
  refine V_aload_n dX6_play_44 rfl ?_
  refine V_bget dX6_play_45 fX6_36 (by decide) rfl (by (try simp only [mset_s, mset_n, pk_us, pk_un, ne_eq, Nat.reduceEqDiff, Nat.reduceAdd, not_false_eq_true, not_true_eq_false]) <;> rfl) ?_
  refine V_aload_n dX6_play_48 rfl ?_
  refine V_bget dX6_play_49 fX6_12 (by decide) rfl (by (try simp only [mset_s, mset_n, pk_us, pk_un, ne_eq, Nat.reduceEqDiff, Nat.reduceAdd, not_false_eq_true, not_true_eq_false]) <;> rfl) ?_
  refine V_bget dX6_play_52 fX6_115 (by decide) rfl (by (try simp only [mset_s, mset_n, pk_us, pk_un, ne_eq, Nat.reduceEqDiff, Nat.reduceAdd, not_false_eq_true, not_true_eq_false]) <;> rfl) ?_
  refine V_iload_n dX6_play_55 rfl ?_
  refine V_callVw dX6_play_56 kX6_138 ykX4_playLoop (by decide) rfl rfl ct rfl (Nat.le_of_ble_eq_true rfl) ⟨by decide, by decide, by decide, by decide⟩ ?_
  refine V_iret dX6_play_59 rfl rfl rfl ?_
  exact Rp_i rfl rfl hP
end CLS
