/-! TryLoopsModel: length, total, type, clearText. -/
section MODEL
variable {G : GT} {l : Launch} {sz a : Nat} {C : CT}
set_option maxHeartbeats 4000000 in
theorem tX7_length_r (x1 x2 : Int32) (hx : ¬ (0 ≤ x2 ∧ x2 ≤ 2)) : Ct G l yX7_length cX7_length 4 (some .int) 2 0 0 sz [.ref (a + 105), .int x1, .int x2] (B G a C) (Rw G a (.int (-2)) C) := by
  refine Ct.of (own := RX7) (mn := "length") (L0 := [some (.ref (a + 105)), some (.int x1), some (.int x2), none]) (by decide +kernel) rfl rfl rfl (Nat.le_of_ble_eq_true rfl) rfl ?_
  refine V_iload_n dX7_length_0 rfl ?_
  refine V_iconst (v := 0) dX7_length_1 (by decide) ?_
  refine V_iconst (v := 2) dX7_length_2 (by decide) ?_
  refine V_callSw dX7_length_3 kX7_37 ykX7_in (tX7_in _ _ _) rfl (Nat.le_of_ble_eq_true rfl) ⟨by decide, by decide, by decide, by decide⟩ ?_
  refine V_if_ne dX7_length_6 (fun z => absurd z (fun z => z (bI_f hx))) (fun _ => ?_)
  refine V_bipush (v := (-2)) dX7_length_9 (by decide) ?_
  refine V_iret dX7_length_11 rfl rfl rfl ?_
  exact Rw_i rfl rfl
set_option maxHeartbeats 4000000 in
theorem tX7_length_o {tc lc : Nat} (x1 x2 : Int32) (hx : 0 ≤ x2 ∧ x2 ≤ 2) (h31 : C 106 31 = nI tc) (htc : tc ≤ 6) (h33 : C 106 33 = nI lc) (hlc : lc ≤ 6) (hn : ¬ isIx x1 (if x2 = 0 then tc else lc)) : Ct G l yX7_length cX7_length 4 (some .int) 2 0 0 sz [.ref (a + 105), .int x1, .int x2] (B G a C) (Rw G a (.int (-1)) C) := by
  refine Ct.of (own := RX7) (mn := "length") (L0 := [some (.ref (a + 105)), some (.int x1), some (.int x2), none]) (by decide +kernel) rfl rfl rfl (Nat.le_of_ble_eq_true rfl) rfl ?_
  refine V_iload_n dX7_length_0 rfl ?_
  refine V_iconst (v := 0) dX7_length_1 (by decide) ?_
  refine V_iconst (v := 2) dX7_length_2 (by decide) ?_
  refine V_callSw dX7_length_3 kX7_37 ykX7_in (tX7_in _ _ _) rfl (Nat.le_of_ble_eq_true rfl) ⟨by decide, by decide, by decide, by decide⟩ ?_
  refine V_if_ne dX7_length_6 (fun _ => ?_) (fun z => absurd z ((bI_ne0.mpr hx)))
  refine V_iload_n dX7_length_12 rfl ?_
  by_cases h0 : x2 = 0
  · rw [if_pos h0] at hn
    refine V_if_ne dX7_length_13 (fun z => absurd z (fun z => z h0)) (fun _ => ?_)
    refine V_aload_n dX7_length_16 rfl ?_
    refine V_iload_n dX7_length_17 rfl ?_
    refine V_callVw dX7_length_18 kX7_67 ykX7_isTry (by decide) rfl rfl (tX7_isTry _ h31 (by omega)) rfl (Nat.le_of_ble_eq_true rfl) ⟨by decide, by decide, by decide, by decide⟩ ?_
    refine V_goto dX7_length_21 ?_
    refine V_istore_n dX7_length_29 (by decide) (by dsimp only [List.set] <;> rfl) ?_
    refine V_iload_n dX7_length_30 rfl ?_
    refine V_if_ne dX7_length_31 (fun z => absurd z (fun z => z (bI_f hn))) (fun _ => ?_)
    refine V_iconst (v := (-1)) dX7_length_34 (by decide) ?_
    refine V_goto dX7_length_35 ?_
    refine V_iret dX7_length_67 rfl rfl rfl ?_
    exact Rw_i rfl rfl
  · rw [if_neg h0] at hn
    refine V_if_ne dX7_length_13 (fun _ => ?_) (fun z => absurd z h0)
    refine V_aload_n dX7_length_24 rfl ?_
    refine V_iload_n dX7_length_25 rfl ?_
    refine V_callVw dX7_length_26 kX7_92 ykX7_isLoop (by decide) rfl rfl (tX7_isLoop _ h33 (by omega)) rfl (Nat.le_of_ble_eq_true rfl) ⟨by decide, by decide, by decide, by decide⟩ ?_
    refine V_istore_n dX7_length_29 (by decide) (by dsimp only [List.set] <;> rfl) ?_
    refine V_iload_n dX7_length_30 rfl ?_
    refine V_if_ne dX7_length_31 (fun z => absurd z (fun z => z (bI_f hn))) (fun _ => ?_)
    refine V_iconst (v := (-1)) dX7_length_34 (by decide) ?_
    refine V_goto dX7_length_35 ?_
    refine V_iret dX7_length_67 rfl rfl rfl ?_
    exact Rw_i rfl rfl
set_option maxHeartbeats 4000000 in
theorem tX7_length_0 {tc n : Nat} (h31 : C 106 31 = nI tc) (htc : tc ≤ 6) (hn : n < tc) : Ct G l yX7_length cX7_length 4 (some .int) 2 0 0 sz [.ref (a + 105), .int (nI n), .int 0] (B G a C) (Rw G a (.int (C 106 (38 + 25 * n))) C) := by
  refine Ct.of (own := RX7) (mn := "length") (L0 := [some (.ref (a + 105)), some (.int (nI n)), some (.int 0), none]) (by decide +kernel) rfl rfl rfl (Nat.le_of_ble_eq_true rfl) rfl ?_
  refine V_iload_n dX7_length_0 rfl ?_
  refine V_iconst (v := 0) dX7_length_1 (by decide) ?_
  refine V_iconst (v := 2) dX7_length_2 (by decide) ?_
  refine V_callSw dX7_length_3 kX7_37 ykX7_in (tX7_in _ _ _) rfl (Nat.le_of_ble_eq_true rfl) ⟨by decide, by decide, by decide, by decide⟩ ?_
  refine V_if_ne dX7_length_6 (fun _ => ?_) (fun z => absurd z ((by decide)))
  refine V_iload_n dX7_length_12 rfl ?_
  refine V_if_ne dX7_length_13 (fun z => absurd z (fun z => z rfl)) (fun _ => ?_)
  refine V_aload_n dX7_length_16 rfl ?_
  refine V_iload_n dX7_length_17 rfl ?_
  refine V_callVw dX7_length_18 kX7_67 ykX7_isTry (by decide) rfl rfl (tX7_isTry _ h31 (by omega)) rfl (Nat.le_of_ble_eq_true rfl) ⟨by decide, by decide, by decide, by decide⟩ ?_
  refine V_goto dX7_length_21 ?_
  refine V_istore_n dX7_length_29 (by decide) (by dsimp only [List.set] <;> rfl) ?_
  refine V_iload_n dX7_length_30 rfl ?_
  refine V_if_ne dX7_length_31 (fun _ => ?_) (fun z => absurd z ((bI_ne0.mpr (isIx_nI hn (by omega)))))
  refine V_iload_n dX7_length_38 rfl ?_
  refine V_if_ne dX7_length_39 (fun z => absurd z (fun z => z rfl)) (fun _ => ?_)
  refine V_aload_n dX7_length_42 rfl ?_
  refine V_iload_n dX7_length_43 rfl ?_
  refine V_callVw dX7_length_44 kX7_60 ykX7_sizeOf (by decide) rfl rfl (tX7_sizeOf (by omega)) rfl (Nat.le_of_ble_eq_true rfl) ⟨by decide, by decide, by decide, by decide⟩ ?_
  refine V_goto dX7_length_47 ?_
  refine V_iret dX7_length_67 rfl rfl rfl ?_
  exact Rw_i rfl rfl
set_option maxHeartbeats 4000000 in
theorem tX7_length_1 {lc n w : Nat} (h33 : C 106 33 = nI lc) (hlc : lc ≤ 6) (hn : n < lc) (hw : w = 1 ∨ w = 2) : Ct G l yX7_length cX7_length 4 (some .int) 2 0 0 sz [.ref (a + 105), .int (nI n), .int (nI w)] (B G a C) (Rw G a (.int (C 106 (212 + 38 * n + w))) C) := by
  have hw0 : ¬ nI w = 0 := by intro z; exact absurd ((ceq rfl nlit (by omega) (by omega)).mp z) (by omega)
  refine Ct.of (own := RX7) (mn := "length") (L0 := [some (.ref (a + 105)), some (.int (nI n)), some (.int (nI w)), none]) (by decide +kernel) rfl rfl rfl (Nat.le_of_ble_eq_true rfl) rfl ?_
  refine V_iload_n dX7_length_0 rfl ?_
  refine V_iconst (v := 0) dX7_length_1 (by decide) ?_
  refine V_iconst (v := 2) dX7_length_2 (by decide) ?_
  refine V_callSw dX7_length_3 kX7_37 ykX7_in (tX7_in _ _ _) rfl (Nat.le_of_ble_eq_true rfl) ⟨by decide, by decide, by decide, by decide⟩ ?_
  refine V_if_ne dX7_length_6 (fun _ => ?_) (fun z => absurd z ((bI_ne0.mpr ⟨(cle nlit rfl (by omega) (by omega)).mpr (by omega), (cle rfl nlit (by omega) (by omega)).mpr (by omega)⟩)))
  refine V_iload_n dX7_length_12 rfl ?_
  refine V_if_ne dX7_length_13 (fun _ => ?_) (fun z => absurd z hw0)
  refine V_aload_n dX7_length_24 rfl ?_
  refine V_iload_n dX7_length_25 rfl ?_
  refine V_callVw dX7_length_26 kX7_92 ykX7_isLoop (by decide) rfl rfl (tX7_isLoop _ h33 (by omega)) rfl (Nat.le_of_ble_eq_true rfl) ⟨by decide, by decide, by decide, by decide⟩ ?_
  refine V_istore_n dX7_length_29 (by decide) (by dsimp only [List.set] <;> rfl) ?_
  refine V_iload_n dX7_length_30 rfl ?_
  refine V_if_ne dX7_length_31 (fun _ => ?_) (fun z => absurd z ((bI_ne0.mpr (isIx_nI hn (by omega)))))
  refine V_iload_n dX7_length_38 rfl ?_
  refine V_if_ne dX7_length_39 (fun _ => ?_) (fun z => absurd z hw0)
  refine V_aload_n dX7_length_50 rfl ?_
  refine V_bget dX7_length_51 fX7_7 (by decide) rfl (by (try simp only [mset_s, mset_n, pk_us, pk_un, ne_eq, Nat.reduceEqDiff, Nat.reduceAdd, not_false_eq_true, not_true_eq_false]) <;> rfl) ?_
  refine V_sipush (v := 213) dX7_length_54 (by decide) ?_
  refine V_bipush (v := 38) dX7_length_57 (by decide) ?_
  refine V_iload_n dX7_length_59 rfl ?_
  refine V_imul dX7_length_60 ?_
  refine V_iadd dX7_length_61 ?_
  refine V_iload_n dX7_length_62 rfl ?_
  refine V_iadd dX7_length_63 ?_
  refine V_iconst (v := 1) dX7_length_64 (by decide) ?_
  refine V_isub dX7_length_65 ?_
  refine V_biald dX7_length_66 (by decide) rfl (by repeat (first | with_reducible rfl | with_reducible exact nlit | with_reducible apply nadd | with_reducible apply nmul | with_reducible apply nsub | with_reducible assumption | omega)) (by omega) (by first | decide | omega) (by (try simp only [mset_s, mset_n, pk_us, pk_un, ne_eq, Nat.reduceEqDiff, Nat.reduceAdd, not_false_eq_true, not_true_eq_false]) <;> rfl) ?_
  refine V_iret dX7_length_67 rfl rfl rfl ?_
  exact Rw_i (by rw [show 213 + 38 * n + w - 1 = 212 + 38 * n + w by omega]) rfl
theorem tot_out {x : Int32} {n : Nat} (hn : n < 1000) (hx : ¬ isIx x n) : x.toInt < 0 ∨ (n : Int) - 1 < x.toInt := by
  unfold isIx at hx
  omega
set_option maxHeartbeats 4000000 in
theorem tX7_total_o (x1 : Int32) (hx : ¬ isIx x1 12) : Ct G l yX7_total cX7_total 2 (some .int) 3 0 0 sz [.ref (a + 105), .int x1] (B G a C) (Rw G a (.int (-2)) C) := by
  refine Ct.of (own := RX7) (mn := "total") (L0 := [some (.ref (a + 105)), some (.int x1)]) (by decide +kernel) rfl rfl rfl (Nat.le_of_ble_eq_true rfl) rfl ?_
  refine V_iload_n dX7_total_0 rfl ?_
  refine V_tOut (tg := 140) dX7_total_1 ?_ rfl ?_
  · have := tot_out (by decide) hx
    omega
  refine V_bipush (v := (-2)) dX7_total_140 (by decide) ?_
  refine V_iret dX7_total_142 rfl rfl rfl ?_
  exact Rw_i rfl rfl
set_option maxHeartbeats 4000000 in
theorem tX7_total {tc w : Nat} {tl : Nat → Nat} (hw : w < 12) (h31 : C 106 31 = nI tc) (htc : tc ≤ 6) (htl : tlM (C 106) tl tc) : Ct G l yX7_total cX7_total 2 (some .int) 3 0 0 sz [.ref (a + 105), .int (nI w)] (B G a C) (Rw G a (.int (tM C tl tc w)) C) := by
  refine Ct.of (own := RX7) (mn := "total") (L0 := [some (.ref (a + 105)), some (.int (nI w))]) (by decide +kernel) rfl rfl rfl (Nat.le_of_ble_eq_true rfl) rfl ?_
  refine V_iload_n dX7_total_0 rfl ?_
  match w, hw with
  | 0, _ =>
    refine V_tIn (tg := 64) dX7_total_1 (by decide) (by decide) rfl rfl ?_
    refine V_aload_n dX7_total_64 rfl ?_
    refine V_bget dX7_total_65 fX7_7 (by decide) rfl (by (try simp only [mset_s, mset_n, pk_us, pk_un, ne_eq, Nat.reduceEqDiff, Nat.reduceAdd, not_false_eq_true, not_true_eq_false]) <;> rfl) ?_
    refine V_bipush (v := 30) dX7_total_68 (by decide) ?_
    refine V_biald dX7_total_70 (by decide) rfl (by repeat (first | with_reducible rfl | with_reducible exact nlit | with_reducible apply nadd | with_reducible apply nmul | with_reducible apply nsub | with_reducible assumption | omega)) (by omega) (by first | decide | omega) (by (try simp only [mset_s, mset_n, pk_us, pk_un, ne_eq, Nat.reduceEqDiff, Nat.reduceAdd, not_false_eq_true, not_true_eq_false]) <;> rfl) ?_
    refine V_iret dX7_total_71 rfl rfl rfl ?_
    exact Rw_i rfl rfl
  | 1, _ =>
    refine V_tIn (tg := 72) dX7_total_1 (by decide) (by decide) rfl rfl ?_
    refine V_aload_n dX7_total_72 rfl ?_
    refine V_callVw dX7_total_73 kX7_141 ykX7_sum (by decide) rfl rfl tX7_sum rfl (Nat.le_of_ble_eq_true rfl) ⟨by decide, by decide, by decide, by decide⟩ ?_
    refine V_iret dX7_total_76 rfl rfl rfl ?_
    exact Rw_i rfl rfl
  | 2, _ =>
    refine V_tIn (tg := 77) dX7_total_1 (by decide) (by decide) rfl rfl ?_
    refine V_aload_n dX7_total_77 rfl ?_
    refine V_bget dX7_total_78 fX7_7 (by decide) rfl (by (try simp only [mset_s, mset_n, pk_us, pk_un, ne_eq, Nat.reduceEqDiff, Nat.reduceAdd, not_false_eq_true, not_true_eq_false]) <;> rfl) ?_
    refine V_bipush (v := 31) dX7_total_81 (by decide) ?_
    refine V_biald dX7_total_83 (by decide) rfl (by repeat (first | with_reducible rfl | with_reducible exact nlit | with_reducible apply nadd | with_reducible apply nmul | with_reducible apply nsub | with_reducible assumption | omega)) (by omega) (by first | decide | omega) (by (try simp only [mset_s, mset_n, pk_us, pk_un, ne_eq, Nat.reduceEqDiff, Nat.reduceAdd, not_false_eq_true, not_true_eq_false]) <;> rfl) ?_
    refine V_iret dX7_total_84 rfl rfl rfl ?_
    exact Rw_i rfl rfl
  | 3, _ =>
    refine V_tIn (tg := 85) dX7_total_1 (by decide) (by decide) rfl rfl ?_
    refine V_aload_n dX7_total_85 rfl ?_
    refine V_bget dX7_total_86 fX7_7 (by decide) rfl (by (try simp only [mset_s, mset_n, pk_us, pk_un, ne_eq, Nat.reduceEqDiff, Nat.reduceAdd, not_false_eq_true, not_true_eq_false]) <;> rfl) ?_
    refine V_bipush (v := 32) dX7_total_89 (by decide) ?_
    refine V_biald dX7_total_91 (by decide) rfl (by repeat (first | with_reducible rfl | with_reducible exact nlit | with_reducible apply nadd | with_reducible apply nmul | with_reducible apply nsub | with_reducible assumption | omega)) (by omega) (by first | decide | omega) (by (try simp only [mset_s, mset_n, pk_us, pk_un, ne_eq, Nat.reduceEqDiff, Nat.reduceAdd, not_false_eq_true, not_true_eq_false]) <;> rfl) ?_
    refine V_iconst (v := 1) dX7_total_92 (by decide) ?_
    by_cases ho : C 106 32 = 1
    · refine V_icmp_ne dX7_total_93 (fun z => absurd z (fun z => z ho)) (fun _ => ?_)
      refine V_aload_n dX7_total_96 rfl ?_
      refine V_aload_n dX7_total_97 rfl ?_
      refine V_bget dX7_total_98 fX7_7 (by decide) rfl (by (try simp only [mset_s, mset_n, pk_us, pk_un, ne_eq, Nat.reduceEqDiff, Nat.reduceAdd, not_false_eq_true, not_true_eq_false]) <;> rfl) ?_
      refine V_bipush (v := 31) dX7_total_101 (by decide) ?_
      refine V_biald dX7_total_103 (by decide) rfl (by repeat (first | with_reducible rfl | with_reducible exact nlit | with_reducible apply nadd | with_reducible apply nmul | with_reducible apply nsub | with_reducible assumption | omega)) (by omega) (by first | decide | omega) (by (try simp only [mset_s, mset_n, pk_us, pk_un, ne_eq, Nat.reduceEqDiff, Nat.reduceAdd, not_false_eq_true, not_true_eq_false]) <;> rfl) ?_
      rw [h31]
      refine V_callVw dX7_total_104 kX7_60 ykX7_sizeOf (by decide) rfl rfl (tX7_sizeOf (by omega)) rfl (Nat.le_of_ble_eq_true rfl) ⟨by decide, by decide, by decide, by decide⟩ ?_
      refine V_goto dX7_total_107 ?_
      refine V_iret dX7_total_112 rfl rfl rfl ?_
      exact Rw_i (by show _ = if C 106 32 = 1 then _ else _; rw [if_pos ho]) rfl
    · refine V_icmp_ne dX7_total_93 (fun _ => ?_) (fun z => absurd z ho)
      refine V_bipush (v := (-5)) dX7_total_110 (by decide) ?_
      refine V_iret dX7_total_112 rfl rfl rfl ?_
      exact Rw_i (by show _ = if C 106 32 = 1 then _ else _; rw [if_neg ho]) rfl
  | 4, _ =>
    refine V_tIn (tg := 113) dX7_total_1 (by decide) (by decide) rfl rfl ?_
    refine V_aload_n dX7_total_113 rfl ?_
    refine V_bget dX7_total_114 fX7_7 (by decide) rfl (by (try simp only [mset_s, mset_n, pk_us, pk_un, ne_eq, Nat.reduceEqDiff, Nat.reduceAdd, not_false_eq_true, not_true_eq_false]) <;> rfl) ?_
    refine V_bipush (v := 33) dX7_total_117 (by decide) ?_
    refine V_iload_n dX7_total_119 rfl ?_
    refine V_iadd dX7_total_120 ?_
    refine V_iconst (v := 4) dX7_total_121 (by decide) ?_
    refine V_isub dX7_total_122 ?_
    refine V_biald dX7_total_123 (by decide) rfl (by repeat (first | with_reducible rfl | with_reducible exact nlit | with_reducible apply nadd | with_reducible apply nmul | with_reducible apply nsub | with_reducible assumption | omega)) (by omega) (by first | decide | omega) (by (try simp only [mset_s, mset_n, pk_us, pk_un, ne_eq, Nat.reduceEqDiff, Nat.reduceAdd, not_false_eq_true, not_true_eq_false]) <;> rfl) ?_
    refine V_iret dX7_total_124 rfl rfl rfl ?_
    exact Rw_i rfl rfl
  | 5, _ =>
    refine V_tIn (tg := 113) dX7_total_1 (by decide) (by decide) rfl rfl ?_
    refine V_aload_n dX7_total_113 rfl ?_
    refine V_bget dX7_total_114 fX7_7 (by decide) rfl (by (try simp only [mset_s, mset_n, pk_us, pk_un, ne_eq, Nat.reduceEqDiff, Nat.reduceAdd, not_false_eq_true, not_true_eq_false]) <;> rfl) ?_
    refine V_bipush (v := 33) dX7_total_117 (by decide) ?_
    refine V_iload_n dX7_total_119 rfl ?_
    refine V_iadd dX7_total_120 ?_
    refine V_iconst (v := 4) dX7_total_121 (by decide) ?_
    refine V_isub dX7_total_122 ?_
    refine V_biald dX7_total_123 (by decide) rfl (by repeat (first | with_reducible rfl | with_reducible exact nlit | with_reducible apply nadd | with_reducible apply nmul | with_reducible apply nsub | with_reducible assumption | omega)) (by omega) (by first | decide | omega) (by (try simp only [mset_s, mset_n, pk_us, pk_un, ne_eq, Nat.reduceEqDiff, Nat.reduceAdd, not_false_eq_true, not_true_eq_false]) <;> rfl) ?_
    refine V_iret dX7_total_124 rfl rfl rfl ?_
    exact Rw_i rfl rfl
  | 6, _ =>
    refine V_tIn (tg := 113) dX7_total_1 (by decide) (by decide) rfl rfl ?_
    refine V_aload_n dX7_total_113 rfl ?_
    refine V_bget dX7_total_114 fX7_7 (by decide) rfl (by (try simp only [mset_s, mset_n, pk_us, pk_un, ne_eq, Nat.reduceEqDiff, Nat.reduceAdd, not_false_eq_true, not_true_eq_false]) <;> rfl) ?_
    refine V_bipush (v := 33) dX7_total_117 (by decide) ?_
    refine V_iload_n dX7_total_119 rfl ?_
    refine V_iadd dX7_total_120 ?_
    refine V_iconst (v := 4) dX7_total_121 (by decide) ?_
    refine V_isub dX7_total_122 ?_
    refine V_biald dX7_total_123 (by decide) rfl (by repeat (first | with_reducible rfl | with_reducible exact nlit | with_reducible apply nadd | with_reducible apply nmul | with_reducible apply nsub | with_reducible assumption | omega)) (by omega) (by first | decide | omega) (by (try simp only [mset_s, mset_n, pk_us, pk_un, ne_eq, Nat.reduceEqDiff, Nat.reduceAdd, not_false_eq_true, not_true_eq_false]) <;> rfl) ?_
    refine V_iret dX7_total_124 rfl rfl rfl ?_
    exact Rw_i rfl rfl
  | 7, _ =>
    refine V_tIn (tg := 113) dX7_total_1 (by decide) (by decide) rfl rfl ?_
    refine V_aload_n dX7_total_113 rfl ?_
    refine V_bget dX7_total_114 fX7_7 (by decide) rfl (by (try simp only [mset_s, mset_n, pk_us, pk_un, ne_eq, Nat.reduceEqDiff, Nat.reduceAdd, not_false_eq_true, not_true_eq_false]) <;> rfl) ?_
    refine V_bipush (v := 33) dX7_total_117 (by decide) ?_
    refine V_iload_n dX7_total_119 rfl ?_
    refine V_iadd dX7_total_120 ?_
    refine V_iconst (v := 4) dX7_total_121 (by decide) ?_
    refine V_isub dX7_total_122 ?_
    refine V_biald dX7_total_123 (by decide) rfl (by repeat (first | with_reducible rfl | with_reducible exact nlit | with_reducible apply nadd | with_reducible apply nmul | with_reducible apply nsub | with_reducible assumption | omega)) (by omega) (by first | decide | omega) (by (try simp only [mset_s, mset_n, pk_us, pk_un, ne_eq, Nat.reduceEqDiff, Nat.reduceAdd, not_false_eq_true, not_true_eq_false]) <;> rfl) ?_
    refine V_iret dX7_total_124 rfl rfl rfl ?_
    exact Rw_i rfl rfl
  | 8, _ =>
    refine V_tIn (tg := 113) dX7_total_1 (by decide) (by decide) rfl rfl ?_
    refine V_aload_n dX7_total_113 rfl ?_
    refine V_bget dX7_total_114 fX7_7 (by decide) rfl (by (try simp only [mset_s, mset_n, pk_us, pk_un, ne_eq, Nat.reduceEqDiff, Nat.reduceAdd, not_false_eq_true, not_true_eq_false]) <;> rfl) ?_
    refine V_bipush (v := 33) dX7_total_117 (by decide) ?_
    refine V_iload_n dX7_total_119 rfl ?_
    refine V_iadd dX7_total_120 ?_
    refine V_iconst (v := 4) dX7_total_121 (by decide) ?_
    refine V_isub dX7_total_122 ?_
    refine V_biald dX7_total_123 (by decide) rfl (by repeat (first | with_reducible rfl | with_reducible exact nlit | with_reducible apply nadd | with_reducible apply nmul | with_reducible apply nsub | with_reducible assumption | omega)) (by omega) (by first | decide | omega) (by (try simp only [mset_s, mset_n, pk_us, pk_un, ne_eq, Nat.reduceEqDiff, Nat.reduceAdd, not_false_eq_true, not_true_eq_false]) <;> rfl) ?_
    refine V_iret dX7_total_124 rfl rfl rfl ?_
    exact Rw_i rfl rfl
  | 9, _ =>
    refine V_tIn (tg := 125) dX7_total_1 (by decide) (by decide) rfl rfl ?_
    refine V_aload_n dX7_total_125 rfl ?_
    refine V_callVw dX7_total_126 kX7_144 ykX7_rowsOfVerbs (by decide) rfl rfl (tX7_rowsOfVerbs h31 htc htl) rfl (Nat.le_of_ble_eq_true rfl) ⟨by decide, by decide, by decide, by decide⟩ ?_
    refine V_iret dX7_total_129 rfl rfl rfl ?_
    exact Rw_i rfl rfl
  | 10, _ =>
    refine V_tIn (tg := 130) dX7_total_1 (by decide) (by decide) rfl rfl ?_
    refine V_aload_n dX7_total_130 rfl ?_
    refine V_bget dX7_total_131 fX7_41 (by decide) rfl (by (try simp only [mset_s, mset_n, pk_us, pk_un, ne_eq, Nat.reduceEqDiff, Nat.reduceAdd, not_false_eq_true, not_true_eq_false]) <;> rfl) ?_
    refine V_iret dX7_total_134 rfl rfl rfl ?_
    exact Rw_i rfl rfl
  | 11, _ =>
    refine V_tIn (tg := 135) dX7_total_1 (by decide) (by decide) rfl rfl ?_
    refine V_aload_n dX7_total_135 rfl ?_
    refine V_bget dX7_total_136 fX7_112 (by decide) rfl (by (try simp only [mset_s, mset_n, pk_us, pk_un, ne_eq, Nat.reduceEqDiff, Nat.reduceAdd, not_false_eq_true, not_true_eq_false]) <;> rfl) ?_
    refine V_iret dX7_total_139 rfl rfl rfl ?_
    exact Rw_i rfl rfl
set_option maxHeartbeats 4000000 in
theorem tX7_type_f (x1 : Int32) (h : C 105 2 = 60) : Ct G l yX7_type cX7_type 2 (some .int) 0 0 0 sz [.ref (a + 105), .int x1] (B G a C) (Rw G a (.int (-3)) C) := by
  refine Ct.of (own := RX7) (mn := "type") (L0 := [some (.ref (a + 105)), some (.int x1)]) (by decide +kernel) rfl rfl rfl (Nat.le_of_ble_eq_true rfl) rfl ?_
  refine V_aload_n dX7_type_0 rfl ?_
  refine V_bget dX7_type_1 fX7_112 (by decide) rfl (by (try simp only [mset_s, mset_n, pk_us, pk_un, ne_eq, Nat.reduceEqDiff, Nat.reduceAdd, not_false_eq_true, not_true_eq_false]) <;> rfl) ?_
  refine V_bipush (v := 60) dX7_type_4 (by decide) ?_
  refine V_icmp_ne dX7_type_6 (fun z => absurd z (fun z => z h)) (fun _ => ?_)
  refine V_bipush (v := (-3)) dX7_type_9 (by decide) ?_
  refine V_iret dX7_type_11 rfl rfl rfl ?_
  exact Rw_i rfl rfl
set_option maxHeartbeats 4000000 in
theorem tX7_type {n : Nat} (x1 : Int32) (h : C 105 2 = nI n) (hn : n < 60) : Ct G l yX7_type cX7_type 2 (some .int) 0 0 0 sz [.ref (a + 105), .int x1] (B G a C) (Rw G a (.int (nI (n + 1))) (mset (mset C 110 (upd (C 110) n x1)) 105 (upd (C 105) 2 (nI (n + 1))))) := by
  refine Ct.of (own := RX7) (mn := "type") (L0 := [some (.ref (a + 105)), some (.int x1)]) (by decide +kernel) rfl rfl rfl (Nat.le_of_ble_eq_true rfl) rfl ?_
  refine V_aload_n dX7_type_0 rfl ?_
  refine V_bget dX7_type_1 fX7_112 (by decide) rfl (by (try simp only [mset_s, mset_n, pk_us, pk_un, ne_eq, Nat.reduceEqDiff, Nat.reduceAdd, not_false_eq_true, not_true_eq_false]) <;> rfl) ?_
  rw [h]
  refine V_bipush (v := 60) dX7_type_4 (by decide) ?_
  refine V_icmp_ne dX7_type_6 (fun _ => ?_) (fun z => absurd z ((fun z => absurd ((ceq (by repeat (first | with_reducible rfl | with_reducible exact nlit | with_reducible apply nadd | with_reducible apply nmul | with_reducible apply nsub | with_reducible assumption | omega)) (by repeat (first | with_reducible rfl | with_reducible exact nlit | with_reducible apply nadd | with_reducible apply nmul | with_reducible apply nsub | with_reducible assumption | omega)) (by omega) (by omega)).mp z) (by omega))))
  refine V_aload_n dX7_type_12 rfl ?_
  refine V_bget dX7_type_13 fX7_22 (by decide) rfl (by (try simp only [mset_s, mset_n, pk_us, pk_un, ne_eq, Nat.reduceEqDiff, Nat.reduceAdd, not_false_eq_true, not_true_eq_false]) <;> rfl) ?_
  refine V_aload_n dX7_type_16 rfl ?_
  refine V_bget dX7_type_17 fX7_112 (by decide) rfl (by (try simp only [mset_s, mset_n, pk_us, pk_un, ne_eq, Nat.reduceEqDiff, Nat.reduceAdd, not_false_eq_true, not_true_eq_false]) <;> rfl) ?_
  rw [h]
  refine V_iload_n dX7_type_20 rfl ?_
  refine V_biast dX7_type_21 (by decide) (fun _ => rfl) (by repeat (first | with_reducible rfl | with_reducible exact nlit | with_reducible apply nadd | with_reducible apply nmul | with_reducible apply nsub | with_reducible assumption | omega)) (by omega) (by first | decide | omega) ?_
  refine V_aload_n dX7_type_22 rfl ?_
  refine V_dup dX7_type_23 rfl ?_
  refine V_bget dX7_type_24 fX7_112 (by decide) rfl (by (try simp only [mset_s, mset_n, pk_us, pk_un, ne_eq, Nat.reduceEqDiff, Nat.reduceAdd, not_false_eq_true, not_true_eq_false]) <;> rfl) ?_
  rw [h]
  refine V_iconst (v := 1) dX7_type_27 (by decide) ?_
  refine V_iadd dX7_type_28 ?_
  rw [show nI n + 1 = nI (n + 1) from nI_1 n]
  refine V_bputi (i0 := 2) dX7_type_29 fX7_112 (by decide) rfl rfl rfl (Nat.le_of_ble_eq_true rfl) rfl ?_
  refine V_aload_n dX7_type_32 rfl ?_
  refine V_bget dX7_type_33 fX7_112 (by decide) rfl (by (try simp only [mset_s, mset_n, pk_us, pk_un, ne_eq, Nat.reduceEqDiff, Nat.reduceAdd, not_false_eq_true, not_true_eq_false]) <;> rfl) ?_
  refine V_iret dX7_type_36 rfl rfl rfl ?_
  exact Rw_i rfl (by simp only [mset_s, mset_ss, mset_n, pk_us, pk_un, uus, ne_eq, Nat.reduceEqDiff, Nat.reduceAdd, not_false_eq_true, not_true_eq_false])
set_option maxHeartbeats 4000000 in
theorem tX7_clearText : Ct G l yX7_clearText cX7_clearText 2 (some .int) 0 0 0 sz [.ref (a + 105)] (B G a C) (Rw G a (.int (C 105 2)) (mset C 105 (upd (C 105) 2 0))) := by
  refine Ct.of (own := RX7) (mn := "clearText") (L0 := [some (.ref (a + 105)), none]) (by decide +kernel) rfl rfl rfl (Nat.le_of_ble_eq_true rfl) rfl ?_
  refine V_aload_n dX7_clearText_0 rfl ?_
  refine V_bget dX7_clearText_1 fX7_112 (by decide) rfl (by (try simp only [mset_s, mset_n, pk_us, pk_un, ne_eq, Nat.reduceEqDiff, Nat.reduceAdd, not_false_eq_true, not_true_eq_false]) <;> rfl) ?_
  refine V_istore_n dX7_clearText_4 (by decide) (by dsimp only [List.set] <;> rfl) ?_
  refine V_aload_n dX7_clearText_5 rfl ?_
  refine V_iconst (v := 0) dX7_clearText_6 (by decide) ?_
  refine V_bputi (i0 := 2) dX7_clearText_7 fX7_112 (by decide) rfl rfl rfl (Nat.le_of_ble_eq_true rfl) rfl ?_
  refine V_iload_n dX7_clearText_10 rfl ?_
  refine V_iret dX7_clearText_11 rfl rfl rfl ?_
  exact Rw_i rfl rfl
end MODEL
