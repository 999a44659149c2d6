/-! TryLoops: length, ofTry, ofLoop, countVerbRows, total. -/
theorem sw_out {x0 : Int32} {n : Nat} (hn : 0 < n) (hn2 : n < 1000) (h : ∀ k, k < n → ¬ x0 = nI k) : x0.toInt < 0 ∨ ((n - 1 : Nat) : Int) < x0.toInt := by
  by_cases h0 : x0.toInt < 0
  · exact Or.inl h0
  · refine Or.inr ?_
    have e := nI_ex (x := x0) (by omega)
    by_cases h5 : x0.toInt.toNat < n
    · exact absurd e (h _ h5)
    · omega
def lkC (C : CT) (sl : Nat → Nat) (i j : Nat) : Bool := decide (sl j = sl i ∧ ∀ k, k < sl j → C 5 (j * 12 + k) = C 5 (i * 12 + k))
section CLS
variable {G : GT} {l : Launch} {sz a : Nat} {C : CT}
set_option maxHeartbeats 4000000 in
theorem tX6_length {tc lc : Nat} (x1 x2 : Int32) (h4 : C 4 0 = nI tc) (htc : tc ≤ 6) (h10 : C 10 0 = nI lc) (hlc : lc ≤ 6) : Ct G l yX6_length cX6_length 3 (some .int) 1 0 0 sz [.ref a, .int x1, .int x2] (B G a C) (Rw G a (.int (if x2 = 0 then (if isIx x1 tc then C 8 x1.toInt.toNat else -1) else if x2 = 1 then (if isIx x1 lc then C 14 x1.toInt.toNat else -1) else if x2 = 2 then (if isIx x1 lc then C 15 x1.toInt.toNat else -1) else -2)) C) := by
  refine Ct.of (own := RX6) (mn := "length") (L0 := [some (.ref (a + 0)), some (.int x1), some (.int x2)]) (by decide +kernel) rfl rfl rfl (Nat.le_of_ble_eq_true rfl) rfl ?_
  refine V_iload_n dX6_length_0 rfl ?_
  by_cases h0 : x2 = 0
  · refine V_tIn (tg := 28) dX6_length_1 (by rw [h0]; decide) (by rw [h0]; decide) (by rw [h0]; rfl) rfl ?_
    refine V_aload_n dX6_length_28 rfl ?_
    refine V_bget dX6_length_29 fX6_12 (by decide) rfl (by (try simp only [mset_s, mset_n, pk_us, pk_un, ne_eq, Nat.reduceEqDiff, Nat.reduceAdd, not_false_eq_true, not_true_eq_false]) <;> rfl) ?_
    refine V_bget dX6_length_32 fX6_74 (by decide) rfl (by (try simp only [mset_s, mset_n, pk_us, pk_un, ne_eq, Nat.reduceEqDiff, Nat.reduceAdd, not_false_eq_true, not_true_eq_false]) <;> rfl) ?_
    refine V_iload_n dX6_length_35 rfl ?_
    refine V_callVw dX6_length_36 kX6_105 ykX3_holds (by decide) rfl rfl (tX3_holds (q := 4) (cnt := tc) stk1.sh3 h4 (by omega)) rfl (Nat.le_of_ble_eq_true rfl) ⟨by decide, by decide, by decide, by decide⟩ ?_
    by_cases h : isIx x1 tc
    · obtain ⟨ex, hk⟩ := isIx_n h
      refine V_if_eq dX6_length_39 (fun z => absurd z (bI_ne0.mpr h)) (fun _ => ?_)
      refine V_aload_n dX6_length_42 rfl ?_
      refine V_bget dX6_length_43 fX6_12 (by decide) rfl (by (try simp only [mset_s, mset_n, pk_us, pk_un, ne_eq, Nat.reduceEqDiff, Nat.reduceAdd, not_false_eq_true, not_true_eq_false]) <;> rfl) ?_
      refine V_bget dX6_length_46 fX6_74 (by decide) rfl (by (try simp only [mset_s, mset_n, pk_us, pk_un, ne_eq, Nat.reduceEqDiff, Nat.reduceAdd, not_false_eq_true, not_true_eq_false]) <;> rfl) ?_
      refine V_iload_n dX6_length_49 rfl ?_
      refine V_toe ex ?_
      refine V_callVw dX6_length_50 kX6_118 ykX3_sizeOf (by decide) rfl rfl (tX3_sizeOf (q := 4) stk1.sh3 (by omega)) rfl (Nat.le_of_ble_eq_true rfl) ⟨by decide, by decide, by decide, by decide⟩ ?_
      refine V_goto dX6_length_53 ?_
      refine V_iret dX6_length_57 rfl rfl rfl ?_
      exact Rw_i (by rw [if_pos h0, if_pos h]) rfl
    · refine V_if_eq dX6_length_39 (fun _ => ?_) (fun z => absurd (bI_f h) z)
      refine V_iconst (v := (-1)) dX6_length_56 (by decide) ?_
      refine V_iret dX6_length_57 rfl rfl rfl ?_
      exact Rw_i (by rw [if_pos h0, if_neg h]) rfl
  by_cases h1 : x2 = 1
  · refine V_tIn (tg := 58) dX6_length_1 (by rw [h1]; decide) (by rw [h1]; decide) (by rw [h1]; rfl) rfl ?_
    refine V_aload_n dX6_length_58 rfl ?_
    refine V_bget dX6_length_59 fX6_12 (by decide) rfl (by (try simp only [mset_s, mset_n, pk_us, pk_un, ne_eq, Nat.reduceEqDiff, Nat.reduceAdd, not_false_eq_true, not_true_eq_false]) <;> rfl) ?_
    refine V_bget dX6_length_62 fX6_115 (by decide) rfl (by (try simp only [mset_s, mset_n, pk_us, pk_un, ne_eq, Nat.reduceEqDiff, Nat.reduceAdd, not_false_eq_true, not_true_eq_false]) <;> rfl) ?_
    refine V_iload_n dX6_length_65 rfl ?_
    refine V_callVw dX6_length_66 kX6_105 ykX3_holds (by decide) rfl rfl (tX3_holds (q := 10) (cnt := lc) stk1.sh9 h10 (by omega)) rfl (Nat.le_of_ble_eq_true rfl) ⟨by decide, by decide, by decide, by decide⟩ ?_
    by_cases h : isIx x1 lc
    · obtain ⟨ex, hk⟩ := isIx_n h
      refine V_if_eq dX6_length_69 (fun z => absurd z (bI_ne0.mpr h)) (fun _ => ?_)
      refine V_aload_n dX6_length_72 rfl ?_
      refine V_bget dX6_length_73 fX6_12 (by decide) rfl (by (try simp only [mset_s, mset_n, pk_us, pk_un, ne_eq, Nat.reduceEqDiff, Nat.reduceAdd, not_false_eq_true, not_true_eq_false]) <;> rfl) ?_
      refine V_bget dX6_length_76 fX6_115 (by decide) rfl (by (try simp only [mset_s, mset_n, pk_us, pk_un, ne_eq, Nat.reduceEqDiff, Nat.reduceAdd, not_false_eq_true, not_true_eq_false]) <;> rfl) ?_
      refine V_iload_n dX6_length_79 rfl ?_
      refine V_toe ex ?_
      refine V_callVw dX6_length_80 kX6_118 ykX3_sizeOf (by decide) rfl rfl (tX3_sizeOf (q := 10) stk1.sh9 (by omega)) rfl (Nat.le_of_ble_eq_true rfl) ⟨by decide, by decide, by decide, by decide⟩ ?_
      refine V_goto dX6_length_83 ?_
      refine V_iret dX6_length_87 rfl rfl rfl ?_
      exact Rw_i (by rw [if_neg h0, if_pos h1, if_pos h]) rfl
    · refine V_if_eq dX6_length_69 (fun _ => ?_) (fun z => absurd (bI_f h) z)
      refine V_iconst (v := (-1)) dX6_length_86 (by decide) ?_
      refine V_iret dX6_length_87 rfl rfl rfl ?_
      exact Rw_i (by rw [if_neg h0, if_pos h1, if_neg h]) rfl
  by_cases h2 : x2 = 2
  · refine V_tIn (tg := 88) dX6_length_1 (by rw [h2]; decide) (by rw [h2]; decide) (by rw [h2]; rfl) rfl ?_
    refine V_aload_n dX6_length_88 rfl ?_
    refine V_bget dX6_length_89 fX6_12 (by decide) rfl (by (try simp only [mset_s, mset_n, pk_us, pk_un, ne_eq, Nat.reduceEqDiff, Nat.reduceAdd, not_false_eq_true, not_true_eq_false]) <;> rfl) ?_
    refine V_bget dX6_length_92 fX6_115 (by decide) rfl (by (try simp only [mset_s, mset_n, pk_us, pk_un, ne_eq, Nat.reduceEqDiff, Nat.reduceAdd, not_false_eq_true, not_true_eq_false]) <;> rfl) ?_
    refine V_iload_n dX6_length_95 rfl ?_
    refine V_callVw dX6_length_96 kX6_105 ykX3_holds (by decide) rfl rfl (tX3_holds (q := 10) (cnt := lc) stk1.sh9 h10 (by omega)) rfl (Nat.le_of_ble_eq_true rfl) ⟨by decide, by decide, by decide, by decide⟩ ?_
    by_cases h : isIx x1 lc
    · obtain ⟨ex, hk⟩ := isIx_n h
      refine V_if_eq dX6_length_99 (fun z => absurd z (bI_ne0.mpr h)) (fun _ => ?_)
      refine V_aload_n dX6_length_102 rfl ?_
      refine V_bget dX6_length_103 fX6_12 (by decide) rfl (by (try simp only [mset_s, mset_n, pk_us, pk_un, ne_eq, Nat.reduceEqDiff, Nat.reduceAdd, not_false_eq_true, not_true_eq_false]) <;> rfl) ?_
      refine V_bget dX6_length_106 fX6_115 (by decide) rfl (by (try simp only [mset_s, mset_n, pk_us, pk_un, ne_eq, Nat.reduceEqDiff, Nat.reduceAdd, not_false_eq_true, not_true_eq_false]) <;> rfl) ?_
      refine V_iload_n dX6_length_109 rfl ?_
      refine V_toe ex ?_
      refine V_callVw dX6_length_110 kX6_131 ykX3_turnsOf (by decide) rfl rfl (tX3_turnsOf (q := 10) stk1.sh9 (by omega)) rfl (Nat.le_of_ble_eq_true rfl) ⟨by decide, by decide, by decide, by decide⟩ ?_
      refine V_goto dX6_length_113 ?_
      refine V_iret dX6_length_117 rfl rfl rfl ?_
      exact Rw_i (by rw [if_neg h0, if_neg h1, if_pos h2, if_pos h]) rfl
    · refine V_if_eq dX6_length_99 (fun _ => ?_) (fun z => absurd (bI_f h) z)
      refine V_iconst (v := (-1)) dX6_length_116 (by decide) ?_
      refine V_iret dX6_length_117 rfl rfl rfl ?_
      exact Rw_i (by rw [if_neg h0, if_neg h1, if_pos h2, if_neg h]) rfl
  · refine V_tOut (tg := 118) dX6_length_1 (sw_out (n := 3) (by decide) (by decide) (fun k hk z => ?_)) rfl ?_
    · rcases (show k = 0 ∨ k = 1 ∨ k = 2 by omega) with w | w | w <;> rw [w] at z
      · exact h0 z
      · exact h1 z
      · exact h2 z
    refine V_bipush (v := (-2)) dX6_length_118 (by decide) ?_
    refine V_iret dX6_length_120 rfl rfl rfl ?_
    exact Rw_i (by rw [if_neg h0, if_neg h1, if_neg h2]) rfl
set_option maxHeartbeats 4000000 in
theorem tX6_ofTry {tc n len : Nat} (x2 x3 : Int32) (h4 : C 4 0 = nI tc) (htc : tc ≤ 6) (hop : C 1 0 = 0 ∨ C 1 0 = 1) (hot : C 1 0 = 1 → tc < 6) (hn : n < tc ∨ (C 1 0 = 1 ∧ n = tc)) (hl : C 8 n = nI len) (hlen : len ≤ 12) : Ct G l yX6_ofTry cX6_ofTry 5 (some .int) 2 0 0 sz [.ref a, .int (nI n), .int x2, .int x3] (B G a C) (Rw G a (.int (if ¬ isIx x2 len then -1 else if x3 = 0 then C 5 (n * 12 + x2.toInt.toNat) else if x3 = 1 then C 6 (n * 12 + x2.toInt.toNat) else -2)) C) := by
  have hn6 : n < 6 := by
    rcases hn with z | z
    · omega
    · rw [z.2]; exact hot z.1
  refine Ct.of (own := RX6) (mn := "ofTry") (L0 := [some (.ref (a + 0)), some (.int (nI n)), some (.int x2), some (.int x3), none]) (by decide +kernel) rfl rfl rfl (Nat.le_of_ble_eq_true rfl) rfl ?_
  have go : ∀ L4, V G l RX6 "ofTry" cX6_ofTry 5 (some .int) (rmd 2 0 0) E0 (Qm G (Rw G a (.int (if ¬ isIx x2 len then -1 else if x3 = 0 then C 5 (n * 12 + x2.toInt.toNat) else if x3 = 1 then C 6 (n * 12 + x2.toInt.toNat) else -2)) C) sz 0 0) sz 0 0 52 [some (.ref (a + 0)), some (.int (nI n)), some (.int x2), some (.int x3), L4] [] (B G a C) := by
    intro L4
    refine V_aload_n dX6_ofTry_52 rfl ?_
    refine V_bget dX6_ofTry_53 fX6_12 (by decide) rfl (by (try simp only [mset_s, mset_n, pk_us, pk_un, ne_eq, Nat.reduceEqDiff, Nat.reduceAdd, not_false_eq_true, not_true_eq_false]) <;> rfl) ?_
    refine V_bget dX6_ofTry_56 fX6_74 (by decide) rfl (by (try simp only [mset_s, mset_n, pk_us, pk_un, ne_eq, Nat.reduceEqDiff, Nat.reduceAdd, not_false_eq_true, not_true_eq_false]) <;> rfl) ?_
    refine V_iload_n dX6_ofTry_59 rfl ?_
    refine V_iload_n dX6_ofTry_60 rfl ?_
    refine V_callVw dX6_ofTry_61 kX6_181 ykX3_hasStep (by decide) rfl rfl (tX3_hasStep (q := 4) stk1.sh3 hn6 hl (by omega)) rfl (Nat.le_of_ble_eq_true rfl) ⟨by decide, by decide, by decide, by decide⟩ ?_
    by_cases h2 : isIx x2 len
    · obtain ⟨ex, hk⟩ := isIx_n h2
      refine V_if_ne dX6_ofTry_64 (fun _ => ?_) (fun z => absurd z ((bI_ne0.mpr h2)))
      refine V_iload_n dX6_ofTry_69 rfl ?_
      by_cases h0 : x3 = 0
      · refine V_look (tg := 96) (off := 26) dX6_ofTry_70 rfl (by rw [h0]; rfl) rfl ?_
        refine V_aload_n dX6_ofTry_96 rfl ?_
        refine V_bget dX6_ofTry_97 fX6_12 (by decide) rfl (by (try simp only [mset_s, mset_n, pk_us, pk_un, ne_eq, Nat.reduceEqDiff, Nat.reduceAdd, not_false_eq_true, not_true_eq_false]) <;> rfl) ?_
        refine V_bget dX6_ofTry_100 fX6_74 (by decide) rfl (by (try simp only [mset_s, mset_n, pk_us, pk_un, ne_eq, Nat.reduceEqDiff, Nat.reduceAdd, not_false_eq_true, not_true_eq_false]) <;> rfl) ?_
        refine V_iload_n dX6_ofTry_103 rfl ?_
        refine V_iload_n dX6_ofTry_104 rfl ?_
        refine V_toe ex ?_
        refine V_callVw dX6_ofTry_105 kX6_157 ykX3_verbAt (by decide) rfl rfl (tX3_verbAt (q := 4) (W := 12) stk1.sh3 hn6 (by omega)) rfl (Nat.le_of_ble_eq_true rfl) ⟨by decide, by decide, by decide, by decide⟩ ?_
        refine V_iret dX6_ofTry_108 rfl rfl rfl ?_
        exact Rw_i (by rw [if_neg (fun z => z h2), if_pos h0]) rfl
      by_cases h1 : x3 = 1
      · refine V_look (tg := 109) (off := 39) dX6_ofTry_70 rfl (by rw [h1]; rfl) rfl ?_
        refine V_aload_n dX6_ofTry_109 rfl ?_
        refine V_bget dX6_ofTry_110 fX6_12 (by decide) rfl (by (try simp only [mset_s, mset_n, pk_us, pk_un, ne_eq, Nat.reduceEqDiff, Nat.reduceAdd, not_false_eq_true, not_true_eq_false]) <;> rfl) ?_
        refine V_bget dX6_ofTry_113 fX6_74 (by decide) rfl (by (try simp only [mset_s, mset_n, pk_us, pk_un, ne_eq, Nat.reduceEqDiff, Nat.reduceAdd, not_false_eq_true, not_true_eq_false]) <;> rfl) ?_
        refine V_iload_n dX6_ofTry_116 rfl ?_
        refine V_iload_n dX6_ofTry_117 rfl ?_
        refine V_toe ex ?_
        refine V_callVw dX6_ofTry_118 kX6_161 ykX3_numberAt (by decide) rfl rfl (tX3_numberAt (q := 4) (W := 12) stk1.sh3 hn6 (by omega)) rfl (Nat.le_of_ble_eq_true rfl) ⟨by decide, by decide, by decide, by decide⟩ ?_
        refine V_iret dX6_ofTry_121 rfl rfl rfl ?_
        exact Rw_i (by rw [if_neg (fun z => z h2), if_neg h0, if_pos h1]) rfl
      · refine V_look (tg := 122) (off := 52) dX6_ofTry_70 rfl ?_ rfl ?_
        · have n0 : ¬ x3.toInt = 0 := fun z => h0 (by rw [i_eq]; exact z)
          have n1 : ¬ x3.toInt = 1 := fun z => h1 (by rw [i_eq]; exact z)
          simp [Op.lookupswitch.offset, n0, n1, Ne.symm n0, Ne.symm n1]
        refine V_bipush (v := (-2)) dX6_ofTry_122 (by decide) ?_
        refine V_iret dX6_ofTry_124 rfl rfl rfl ?_
        exact Rw_i (by rw [if_neg (fun z => z h2), if_neg h0, if_neg h1]) rfl
    · refine V_if_ne dX6_ofTry_64 (fun z => absurd z (fun z => z (bI_f h2))) (fun _ => ?_)
      refine V_iconst (v := (-1)) dX6_ofTry_67 (by decide) ?_
      refine V_iret dX6_ofTry_68 rfl rfl rfl ?_
      exact Rw_i (by rw [if_pos h2]) rfl
  refine V_aload_n dX6_ofTry_0 rfl ?_
  refine V_bget dX6_ofTry_1 fX6_12 (by decide) rfl (by (try simp only [mset_s, mset_n, pk_us, pk_un, ne_eq, Nat.reduceEqDiff, Nat.reduceAdd, not_false_eq_true, not_true_eq_false]) <;> rfl) ?_
  refine V_bget dX6_ofTry_4 fX6_59 (by decide) rfl (by (try simp only [mset_s, mset_n, pk_us, pk_un, ne_eq, Nat.reduceEqDiff, Nat.reduceAdd, not_false_eq_true, not_true_eq_false]) <;> rfl) ?_
  have kept : n < tc → V G l RX6 "ofTry" cX6_ofTry 5 (some .int) (rmd 2 0 0) E0 (Qm G (Rw G a (.int (if ¬ isIx x2 len then -1 else if x3 = 0 then C 5 (n * 12 + x2.toInt.toNat) else if x3 = 1 then C 6 (n * 12 + x2.toInt.toNat) else -2)) C) sz 0 0) sz 0 0 28 [some (.ref (a + 0)), some (.int (nI n)), some (.int x2), some (.int x3), none] [] (B G a C) := by
    intro h1
    refine V_iconst (v := 0) dX6_ofTry_28 (by decide) ?_
    refine V_istore dX6_ofTry_29 (by decide) (by dsimp only [List.set] <;> rfl) rfl ?_
    refine V_iload dX6_ofTry_31 rfl ?_
    refine V_if_ne dX6_ofTry_33 (fun z => absurd z (fun z => z rfl)) (fun _ => ?_)
    refine V_aload_n dX6_ofTry_36 rfl ?_
    refine V_bget dX6_ofTry_37 fX6_12 (by decide) rfl (by (try simp only [mset_s, mset_n, pk_us, pk_un, ne_eq, Nat.reduceEqDiff, Nat.reduceAdd, not_false_eq_true, not_true_eq_false]) <;> rfl) ?_
    refine V_bget dX6_ofTry_40 fX6_74 (by decide) rfl (by (try simp only [mset_s, mset_n, pk_us, pk_un, ne_eq, Nat.reduceEqDiff, Nat.reduceAdd, not_false_eq_true, not_true_eq_false]) <;> rfl) ?_
    refine V_iload_n dX6_ofTry_43 rfl ?_
    refine V_callVw dX6_ofTry_44 kX6_105 ykX3_holds (by decide) rfl rfl (tX3_holds (q := 4) (cnt := tc) stk1.sh3 h4 (by omega)) rfl (Nat.le_of_ble_eq_true rfl) ⟨by decide, by decide, by decide, by decide⟩ ?_
    refine V_if_ne dX6_ofTry_47 (fun _ => ?_) (fun z => absurd z ((bI_ne0.mpr (isIx_nI h1 (by omega)))))
    exact go _
  rcases hop with zz | zz
  · refine V_if_eq dX6_ofTry_7 (fun _ => ?_) (fun z => absurd zz z)
    exact kept (hn.resolve_right (fun w => by rw [zz] at w; exact absurd w.1 (by decide)))
  · refine V_if_eq dX6_ofTry_7 (fun z => absurd z (by rw [zz]; decide)) (fun _ => ?_)
    refine V_iload_n dX6_ofTry_10 rfl ?_
    refine V_aload_n dX6_ofTry_11 rfl ?_
    refine V_bget dX6_ofTry_12 fX6_12 (by decide) rfl (by (try simp only [mset_s, mset_n, pk_us, pk_un, ne_eq, Nat.reduceEqDiff, Nat.reduceAdd, not_false_eq_true, not_true_eq_false]) <;> rfl) ?_
    refine V_bget dX6_ofTry_15 fX6_74 (by decide) rfl (by (try simp only [mset_s, mset_n, pk_us, pk_un, ne_eq, Nat.reduceEqDiff, Nat.reduceAdd, not_false_eq_true, not_true_eq_false]) <;> rfl) ?_
    refine V_bget dX6_ofTry_18 fX6_78 (by decide) rfl (by (try simp only [mset_s, mset_n, pk_us, pk_un, ne_eq, Nat.reduceEqDiff, Nat.reduceAdd, not_false_eq_true, not_true_eq_false]) <;> rfl) ?_
    rw [h4]
    by_cases h1 : n = tc
    · refine V_icmp_ne dX6_ofTry_21 (fun z => absurd z (fun w => w (by rw [h1]))) (fun _ => ?_)
      refine V_iconst (v := 1) dX6_ofTry_24 (by decide) ?_
      refine V_goto dX6_ofTry_25 ?_
      refine V_istore dX6_ofTry_29 (by decide) (by dsimp only [List.set] <;> rfl) rfl ?_
      refine V_iload dX6_ofTry_31 rfl ?_
      refine V_if_ne dX6_ofTry_33 (fun _ => ?_) (fun z => absurd z ((by decide)))
      exact go _
    · refine V_icmp_ne dX6_ofTry_21 (fun _ => ?_) (fun z => absurd z ((fun w => h1 ((ceq rfl rfl (by omega) (by omega)).mp w))))
      exact kept (hn.resolve_right (fun w => h1 w.2))
set_option maxHeartbeats 4000000 in
theorem tX6_ofTry_o {tc : Nat} (x1 x2 x3 : Int32) (h4 : C 4 0 = nI tc) (htc : tc ≤ 6) (hop : C 1 0 = 0 ∨ C 1 0 = 1) (hn : ¬ (isIx x1 tc ∨ (C 1 0 = 1 ∧ x1 = nI tc))) : Ct G l yX6_ofTry cX6_ofTry 5 (some .int) 2 0 0 sz [.ref a, .int x1, .int x2, .int x3] (B G a C) (Rw G a (.int (-1)) C) := by
  refine Ct.of (own := RX6) (mn := "ofTry") (L0 := [some (.ref (a + 0)), some (.int x1), some (.int x2), some (.int x3), none]) (by decide +kernel) rfl rfl rfl (Nat.le_of_ble_eq_true rfl) rfl ?_
  have kept : V G l RX6 "ofTry" cX6_ofTry 5 (some .int) (rmd 2 0 0) E0 (Qm G (Rw G a (.int (-1)) C) sz 0 0) sz 0 0 28 [some (.ref (a + 0)), some (.int x1), some (.int x2), some (.int x3), none] [] (B G a C) := by
    refine V_iconst (v := 0) dX6_ofTry_28 (by decide) ?_
    refine V_istore dX6_ofTry_29 (by decide) (by dsimp only [List.set] <;> rfl) rfl ?_
    refine V_iload dX6_ofTry_31 rfl ?_
    refine V_if_ne dX6_ofTry_33 (fun z => absurd z (fun z => z rfl)) (fun _ => ?_)
    refine V_aload_n dX6_ofTry_36 rfl ?_
    refine V_bget dX6_ofTry_37 fX6_12 (by decide) rfl (by (try simp only [mset_s, mset_n, pk_us, pk_un, ne_eq, Nat.reduceEqDiff, Nat.reduceAdd, not_false_eq_true, not_true_eq_false]) <;> rfl) ?_
    refine V_bget dX6_ofTry_40 fX6_74 (by decide) rfl (by (try simp only [mset_s, mset_n, pk_us, pk_un, ne_eq, Nat.reduceEqDiff, Nat.reduceAdd, not_false_eq_true, not_true_eq_false]) <;> rfl) ?_
    refine V_iload_n dX6_ofTry_43 rfl ?_
    refine V_callVw dX6_ofTry_44 kX6_105 ykX3_holds (by decide) rfl rfl (tX3_holds (q := 4) (cnt := tc) stk1.sh3 h4 (by omega)) rfl (Nat.le_of_ble_eq_true rfl) ⟨by decide, by decide, by decide, by decide⟩ ?_
    refine V_if_ne dX6_ofTry_47 (fun z => absurd z (fun z => z (bI_f (fun w => hn (Or.inl w))))) (fun _ => ?_)
    refine V_iconst (v := (-1)) dX6_ofTry_50 (by decide) ?_
    refine V_iret dX6_ofTry_51 rfl rfl rfl ?_
    exact Rw_i rfl rfl
  refine V_aload_n dX6_ofTry_0 rfl ?_
  refine V_bget dX6_ofTry_1 fX6_12 (by decide) rfl (by (try simp only [mset_s, mset_n, pk_us, pk_un, ne_eq, Nat.reduceEqDiff, Nat.reduceAdd, not_false_eq_true, not_true_eq_false]) <;> rfl) ?_
  refine V_bget dX6_ofTry_4 fX6_59 (by decide) rfl (by (try simp only [mset_s, mset_n, pk_us, pk_un, ne_eq, Nat.reduceEqDiff, Nat.reduceAdd, not_false_eq_true, not_true_eq_false]) <;> rfl) ?_
  rcases hop with zz | zz
  · refine V_if_eq dX6_ofTry_7 (fun _ => ?_) (fun z => absurd zz z)
    exact kept
  · refine V_if_eq dX6_ofTry_7 (fun z => absurd z (by rw [zz]; decide)) (fun _ => ?_)
    refine V_iload_n dX6_ofTry_10 rfl ?_
    refine V_aload_n dX6_ofTry_11 rfl ?_
    refine V_bget dX6_ofTry_12 fX6_12 (by decide) rfl (by (try simp only [mset_s, mset_n, pk_us, pk_un, ne_eq, Nat.reduceEqDiff, Nat.reduceAdd, not_false_eq_true, not_true_eq_false]) <;> rfl) ?_
    refine V_bget dX6_ofTry_15 fX6_74 (by decide) rfl (by (try simp only [mset_s, mset_n, pk_us, pk_un, ne_eq, Nat.reduceEqDiff, Nat.reduceAdd, not_false_eq_true, not_true_eq_false]) <;> rfl) ?_
    refine V_bget dX6_ofTry_18 fX6_78 (by decide) rfl (by (try simp only [mset_s, mset_n, pk_us, pk_un, ne_eq, Nat.reduceEqDiff, Nat.reduceAdd, not_false_eq_true, not_true_eq_false]) <;> rfl) ?_
    rw [h4]
    refine V_icmp_ne dX6_ofTry_21 (fun _ => ?_) (fun z => absurd z ((fun w => hn (Or.inr ⟨zz, w⟩))))
    exact kept
set_option maxHeartbeats 4000000 in
theorem tX6_ofLoop_o {lc : Nat} (x1 x2 x3 : Int32) (h10 : C 10 0 = nI lc) (hlc : lc ≤ 6) (hx : ¬ isIx x1 lc) : Ct G l yX6_ofLoop cX6_ofLoop 5 (some .int) 3 0 0 sz [.ref a, .int x1, .int x2, .int x3] (B G a C) (Rw G a (.int (-1)) C) := by
  refine Ct.of (own := RX6) (mn := "ofLoop") (L0 := [some (.ref (a + 0)), some (.int x1), some (.int x2), some (.int x3), none]) (by decide +kernel) rfl rfl rfl (Nat.le_of_ble_eq_true rfl) rfl ?_
  refine V_aload_n dX6_ofLoop_0 rfl ?_
  refine V_bget dX6_ofLoop_1 fX6_12 (by decide) rfl (by (try simp only [mset_s, mset_n, pk_us, pk_un, ne_eq, Nat.reduceEqDiff, Nat.reduceAdd, not_false_eq_true, not_true_eq_false]) <;> rfl) ?_
  refine V_bget dX6_ofLoop_4 fX6_115 (by decide) rfl (by (try simp only [mset_s, mset_n, pk_us, pk_un, ne_eq, Nat.reduceEqDiff, Nat.reduceAdd, not_false_eq_true, not_true_eq_false]) <;> rfl) ?_
  refine V_astore dX6_ofLoop_7 (by decide) (by dsimp only [List.set] <;> rfl) rfl ?_
  refine V_aload dX6_ofLoop_9 rfl ?_
  refine V_iload_n dX6_ofLoop_11 rfl ?_
  refine V_callVw dX6_ofLoop_12 kX6_105 ykX3_holds (by decide) rfl rfl (tX3_holds (q := 10) (cnt := lc) stk1.sh9 h10 (by omega)) rfl (Nat.le_of_ble_eq_true rfl) ⟨by decide, by decide, by decide, by decide⟩ ?_
  refine V_if_eq dX6_ofLoop_15 (fun _ => ?_) (fun z => absurd (bI_f hx) z)
  refine V_iconst (v := (-1)) dX6_ofLoop_28 (by decide) ?_
  refine V_iret dX6_ofLoop_29 rfl rfl rfl ?_
  exact Rw_i rfl rfl
theorem tX6_ofLoop_s {lc n len : Nat} (x2 x3 : Int32) (h10 : C 10 0 = nI lc) (hlc : lc ≤ 6) (hn : n < lc) (hl : C 14 n = nI len) (hlen : len ≤ 12) (hx : ¬ isIx x2 len) : Ct G l yX6_ofLoop cX6_ofLoop 5 (some .int) 3 0 0 sz [.ref a, .int (nI n), .int x2, .int x3] (B G a C) (Rw G a (.int (-1)) C) := by
  refine Ct.of (own := RX6) (mn := "ofLoop") (L0 := [some (.ref (a + 0)), some (.int (nI n)), some (.int x2), some (.int x3), none]) (by decide +kernel) rfl rfl rfl (Nat.le_of_ble_eq_true rfl) rfl ?_
  refine V_aload_n dX6_ofLoop_0 rfl ?_
  refine V_bget dX6_ofLoop_1 fX6_12 (by decide) rfl (by (try simp only [mset_s, mset_n, pk_us, pk_un, ne_eq, Nat.reduceEqDiff, Nat.reduceAdd, not_false_eq_true, not_true_eq_false]) <;> rfl) ?_
  refine V_bget dX6_ofLoop_4 fX6_115 (by decide) rfl (by (try simp only [mset_s, mset_n, pk_us, pk_un, ne_eq, Nat.reduceEqDiff, Nat.reduceAdd, not_false_eq_true, not_true_eq_false]) <;> rfl) ?_
  refine V_astore dX6_ofLoop_7 (by decide) (by dsimp only [List.set] <;> rfl) rfl ?_
  refine V_aload dX6_ofLoop_9 rfl ?_
  refine V_iload_n dX6_ofLoop_11 rfl ?_
  refine V_callVw dX6_ofLoop_12 kX6_105 ykX3_holds (by decide) rfl rfl (tX3_holds (q := 10) (cnt := lc) stk1.sh9 h10 (by omega)) rfl (Nat.le_of_ble_eq_true rfl) ⟨by decide, by decide, by decide, by decide⟩ ?_
  refine V_if_eq dX6_ofLoop_15 (fun z => absurd z (bI_ne0.mpr (isIx_nI hn (by omega)))) (fun _ => ?_)
  refine V_aload dX6_ofLoop_18 rfl ?_
  refine V_iload_n dX6_ofLoop_20 rfl ?_
  refine V_iload_n dX6_ofLoop_21 rfl ?_
  refine V_callVw dX6_ofLoop_22 kX6_181 ykX3_hasStep (by decide) rfl rfl (tX3_hasStep (q := 10) stk1.sh9 (by omega) hl (by omega)) rfl (Nat.le_of_ble_eq_true rfl) ⟨by decide, by decide, by decide, by decide⟩ ?_
  refine V_if_ne dX6_ofLoop_25 (fun z => absurd z (fun z => z (bI_f hx))) (fun _ => ?_)
  refine V_iconst (v := (-1)) dX6_ofLoop_28 (by decide) ?_
  refine V_iret dX6_ofLoop_29 rfl rfl rfl ?_
  exact Rw_i rfl rfl
set_option maxHeartbeats 4000000 in
theorem tX6_ofLoop {lc n len k : Nat} (x3 : Int32) (h10 : C 10 0 = nI lc) (hlc : lc ≤ 6) (hn : n < lc) (hl : C 14 n = nI len) (hlen : len ≤ 12) (hk : k < len) : Ct G l yX6_ofLoop cX6_ofLoop 5 (some .int) 3 0 0 sz [.ref a, .int (nI n), .int (nI k), .int x3] (B G a C) (Rw G a (.int (if x3 = 0 then C 11 (n * 12 + k) else if x3 = 1 then C 12 (n * 12 + k) else if x3 = 2 then C 13 (n * 12 + k) + 1000 else if x3 = 3 then C 12 (n * 12 + k) + (C 15 n - 1) * C 13 (n * 12 + k) + 10000 else -2)) C) := by
  refine Ct.of (own := RX6) (mn := "ofLoop") (L0 := [some (.ref (a + 0)), some (.int (nI n)), some (.int (nI k)), some (.int x3), none]) (by decide +kernel) rfl rfl rfl (Nat.le_of_ble_eq_true rfl) rfl ?_
  refine V_aload_n dX6_ofLoop_0 rfl ?_
  refine V_bget dX6_ofLoop_1 fX6_12 (by decide) rfl (by (try simp only [mset_s, mset_n, pk_us, pk_un, ne_eq, Nat.reduceEqDiff, Nat.reduceAdd, not_false_eq_true, not_true_eq_false]) <;> rfl) ?_
  refine V_bget dX6_ofLoop_4 fX6_115 (by decide) rfl (by (try simp only [mset_s, mset_n, pk_us, pk_un, ne_eq, Nat.reduceEqDiff, Nat.reduceAdd, not_false_eq_true, not_true_eq_false]) <;> rfl) ?_
  refine V_astore dX6_ofLoop_7 (by decide) (by dsimp only [List.set] <;> rfl) rfl ?_
  refine V_aload dX6_ofLoop_9 rfl ?_
  refine V_iload_n dX6_ofLoop_11 rfl ?_
  refine V_callVw dX6_ofLoop_12 kX6_105 ykX3_holds (by decide) rfl rfl (tX3_holds (q := 10) (cnt := lc) stk1.sh9 h10 (by omega)) rfl (Nat.le_of_ble_eq_true rfl) ⟨by decide, by decide, by decide, by decide⟩ ?_
  refine V_if_eq dX6_ofLoop_15 (fun z => absurd z (bI_ne0.mpr (isIx_nI hn (by omega)))) (fun _ => ?_)
  refine V_aload dX6_ofLoop_18 rfl ?_
  refine V_iload_n dX6_ofLoop_20 rfl ?_
  refine V_iload_n dX6_ofLoop_21 rfl ?_
  refine V_callVw dX6_ofLoop_22 kX6_181 ykX3_hasStep (by decide) rfl rfl (tX3_hasStep (q := 10) stk1.sh9 (by omega) hl (by omega)) rfl (Nat.le_of_ble_eq_true rfl) ⟨by decide, by decide, by decide, by decide⟩ ?_
  refine V_if_ne dX6_ofLoop_25 (fun _ => ?_) (fun z => absurd z ((bI_ne0.mpr (isIx_nI hk (by omega)))))
  refine V_iload_n dX6_ofLoop_30 rfl ?_
  by_cases h0 : x3 = 0
  · refine V_tIn (tg := 60) dX6_ofLoop_31 (by rw [h0]; decide) (by rw [h0]; decide) (by rw [h0]; rfl) rfl ?_
    refine V_aload dX6_ofLoop_60 rfl ?_
    refine V_iload_n dX6_ofLoop_62 rfl ?_
    refine V_iload_n dX6_ofLoop_63 rfl ?_
    refine V_callVw dX6_ofLoop_64 kX6_157 ykX3_verbAt (by decide) rfl rfl (tX3_verbAt (q := 10) (W := 12) stk1.sh9 (by omega) (by omega)) rfl (Nat.le_of_ble_eq_true rfl) ⟨by decide, by decide, by decide, by decide⟩ ?_
    refine V_iret dX6_ofLoop_67 rfl rfl rfl ?_
    exact Rw_i (by rw [if_pos h0]) rfl
  by_cases h1 : x3 = 1
  · refine V_tIn (tg := 68) dX6_ofLoop_31 (by rw [h1]; decide) (by rw [h1]; decide) (by rw [h1]; rfl) rfl ?_
    refine V_aload dX6_ofLoop_68 rfl ?_
    refine V_iload_n dX6_ofLoop_70 rfl ?_
    refine V_iload_n dX6_ofLoop_71 rfl ?_
    refine V_callVw dX6_ofLoop_72 kX6_161 ykX3_numberAt (by decide) rfl rfl (tX3_numberAt (q := 10) (W := 12) stk1.sh9 (by omega) (by omega)) rfl (Nat.le_of_ble_eq_true rfl) ⟨by decide, by decide, by decide, by decide⟩ ?_
    refine V_iret dX6_ofLoop_75 rfl rfl rfl ?_
    exact Rw_i (by rw [if_neg h0, if_pos h1]) rfl
  by_cases h2 : x3 = 2
  · refine V_tIn (tg := 76) dX6_ofLoop_31 (by rw [h2]; decide) (by rw [h2]; decide) (by rw [h2]; rfl) rfl ?_
    refine V_aload dX6_ofLoop_76 rfl ?_
    refine V_iload_n dX6_ofLoop_78 rfl ?_
    refine V_iload_n dX6_ofLoop_79 rfl ?_
    refine V_callVw dX6_ofLoop_80 kX6_184 ykX3_strideAt (by decide) rfl rfl (tX3_strideAt (q := 10) (W := 12) stk1.sh9 (by omega) (by omega)) rfl (Nat.le_of_ble_eq_true rfl) ⟨by decide, by decide, by decide, by decide⟩ ?_
    refine V_sipush (v := 1000) dX6_ofLoop_83 (by decide) ?_
    refine V_iadd dX6_ofLoop_86 ?_
    refine V_iret dX6_ofLoop_87 rfl rfl rfl ?_
    exact Rw_i (by rw [if_neg h0, if_neg h1, if_pos h2]) rfl
  by_cases h3 : x3 = 3
  · refine V_tIn (tg := 88) dX6_ofLoop_31 (by rw [h3]; decide) (by rw [h3]; decide) (by rw [h3]; rfl) rfl ?_
    refine V_aload dX6_ofLoop_88 rfl ?_
    refine V_iload_n dX6_ofLoop_90 rfl ?_
    refine V_iload_n dX6_ofLoop_91 rfl ?_
    refine V_aload dX6_ofLoop_92 rfl ?_
    refine V_iload_n dX6_ofLoop_94 rfl ?_
    refine V_callVw dX6_ofLoop_95 kX6_131 ykX3_turnsOf (by decide) rfl rfl (tX3_turnsOf (q := 10) stk1.sh9 (by omega)) rfl (Nat.le_of_ble_eq_true rfl) ⟨by decide, by decide, by decide, by decide⟩ ?_
    refine V_iconst (v := 1) dX6_ofLoop_98 (by decide) ?_
    refine V_isub dX6_ofLoop_99 ?_
    refine V_callVw dX6_ofLoop_100 kX6_187 ykX3_numberInTurn (by decide) rfl rfl (tX3_numberInTurn (q := 10) (W := 12) stk1.sh9 (by omega) (by omega)) rfl (Nat.le_of_ble_eq_true rfl) ⟨by decide, by decide, by decide, by decide⟩ ?_
    refine V_sipush (v := 10000) dX6_ofLoop_103 (by decide) ?_
    refine V_iadd dX6_ofLoop_106 ?_
    refine V_iret dX6_ofLoop_107 rfl rfl rfl ?_
    exact Rw_i (by rw [if_neg h0, if_neg h1, if_neg h2, if_pos h3]) rfl
  · refine V_tOut (tg := 108) dX6_ofLoop_31 (sw_out (n := 4) (by decide) (by decide) (fun i hi z => ?_)) rfl ?_
    · rcases (show i = 0 ∨ i = 1 ∨ i = 2 ∨ i = 3 by omega) with w | w | w | w <;> rw [w] at z
      · exact h0 z
      · exact h1 z
      · exact h2 z
      · exact h3 z
    refine V_bipush (v := (-2)) dX6_ofLoop_108 (by decide) ?_
    refine V_iret dX6_ofLoop_110 rfl rfl rfl ?_
    exact Rw_i (by rw [if_neg h0, if_neg h1, if_neg h2, if_neg h3]) rfl
set_option maxHeartbeats 4000000 in
theorem tX6_countVerbRows {tc : Nat} {sl : Nat → Nat} (h4 : C 4 0 = nI tc) (htc : tc ≤ 6) (hsl : ∀ i, i < tc → C 8 i = nI (sl i) ∧ sl i ≤ 12) : Ct G l yX6_countVerbRows cX6_countVerbRows 5 (some .int) 3 0 0 sz [.ref a] (B G a C) (Rw G a (.int (rowsN (lkC C sl) tc)) C) := by
  refine Ct.of (own := RX6) (mn := "countVerbRows") (L0 := [some (.ref (a + 0)), none, none, none, none]) (by decide +kernel) rfl rfl rfl (Nat.le_of_ble_eq_true rfl) rfl ?_
  have key : ∀ (m i : Nat) (L3 L4 : Option Value), i + m = tc → V G l RX6 "countVerbRows" cX6_countVerbRows 5 (some .int) (rmd 3 0 0) E0 (Qm G (Rw G a (.int (rowsN (lkC C sl) tc)) C) sz 0 0) sz 0 0 4 [some (.ref (a + 0)), some (.int (rowsN (lkC C sl) i)), some (.int (nI i)), L3, L4] [] (B G a C) := by
    intro m
    induction m with
    | zero =>
      intro i L3 L4 hk
      obtain rfl : i = tc := by omega
      refine V_iload_n dX6_countVerbRows_4 rfl ?_
      refine V_aload_n dX6_countVerbRows_5 rfl ?_
      refine V_bget dX6_countVerbRows_6 fX6_12 (by decide) rfl (by (try simp only [mset_s, mset_n, pk_us, pk_un, ne_eq, Nat.reduceEqDiff, Nat.reduceAdd, not_false_eq_true, not_true_eq_false]) <;> rfl) ?_
      refine V_bget dX6_countVerbRows_9 fX6_74 (by decide) rfl (by (try simp only [mset_s, mset_n, pk_us, pk_un, ne_eq, Nat.reduceEqDiff, Nat.reduceAdd, not_false_eq_true, not_true_eq_false]) <;> rfl) ?_
      refine V_bget dX6_countVerbRows_12 fX6_78 (by decide) rfl (by (try simp only [mset_s, mset_n, pk_us, pk_un, ne_eq, Nat.reduceEqDiff, Nat.reduceAdd, not_false_eq_true, not_true_eq_false]) <;> rfl) ?_
      rw [h4]
      refine V_icmp_ge dX6_countVerbRows_15 (fun _ => ?_) (fun z => absurd ((cle (by repeat (first | with_reducible rfl | with_reducible exact nlit | with_reducible apply nadd | with_reducible apply nmul | with_reducible apply nsub | with_reducible assumption | omega)) (by repeat (first | with_reducible rfl | with_reducible exact nlit | with_reducible apply nadd | with_reducible apply nmul | with_reducible apply nsub | with_reducible assumption | omega)) (by omega) (by omega)).mpr (by omega)) z)
      refine V_iload_n dX6_countVerbRows_74 rfl ?_
      refine V_iret dX6_countVerbRows_75 rfl rfl rfl ?_
      exact Rw_i rfl rfl
    | succ m ih =>
      intro i L3 L4 hk
      refine V_iload_n dX6_countVerbRows_4 rfl ?_
      refine V_aload_n dX6_countVerbRows_5 rfl ?_
      refine V_bget dX6_countVerbRows_6 fX6_12 (by decide) rfl (by (try simp only [mset_s, mset_n, pk_us, pk_un, ne_eq, Nat.reduceEqDiff, Nat.reduceAdd, not_false_eq_true, not_true_eq_false]) <;> rfl) ?_
      refine V_bget dX6_countVerbRows_9 fX6_74 (by decide) rfl (by (try simp only [mset_s, mset_n, pk_us, pk_un, ne_eq, Nat.reduceEqDiff, Nat.reduceAdd, not_false_eq_true, not_true_eq_false]) <;> rfl) ?_
      refine V_bget dX6_countVerbRows_12 fX6_78 (by decide) rfl (by (try simp only [mset_s, mset_n, pk_us, pk_un, ne_eq, Nat.reduceEqDiff, Nat.reduceAdd, not_false_eq_true, not_true_eq_false]) <;> rfl) ?_
      rw [h4]
      refine V_icmp_ge dX6_countVerbRows_15 (fun z => absurd z (fun z => absurd ((cle (by repeat (first | with_reducible rfl | with_reducible exact nlit | with_reducible apply nadd | with_reducible apply nmul | with_reducible apply nsub | with_reducible assumption | omega)) (by repeat (first | with_reducible rfl | with_reducible exact nlit | with_reducible apply nadd | with_reducible apply nmul | with_reducible apply nsub | with_reducible assumption | omega)) (by omega) (by omega)).mp z) (by omega))) (fun _ => ?_)
      have fin : ∀ L4, V G l RX6 "countVerbRows" cX6_countVerbRows 5 (some .int) (rmd 3 0 0) E0 (Qm G (Rw G a (.int (rowsN (lkC C sl) tc)) C) sz 0 0) sz 0 0 61 [some (.ref (a + 0)), some (.int (rowsN (lkC C sl) i)), some (.int (nI i)), some (.int (bI (∀ q, q < i → lkC C sl i q = false))), L4] [] (B G a C) := by
        intro L4
        have go := ih (i + 1) (some (.int (bI (∀ q, q < i → lkC C sl i q = false)))) L4 (by omega)
        refine V_iload_n dX6_countVerbRows_61 rfl ?_
        by_cases hb : ∀ q, q < i → lkC C sl i q = false
        · refine V_if_eq dX6_countVerbRows_62 (fun z => absurd z (bI_ne0.mpr hb)) (fun _ => ?_)
          refine V_iinc dX6_countVerbRows_65 rfl rfl (by decide) (by dsimp only [List.set] <;> rfl) ?_
          refine V_iinc dX6_countVerbRows_68 rfl (ninc _) (by decide) (by dsimp only [List.set] <;> rfl) ?_
          refine V_goto dX6_countVerbRows_71 ?_
          rw [show rowsN (lkC C sl) (i + 1) = rowsN (lkC C sl) i + 1 from by rw [rowsN, bI_t hb]] at go
          exact go
        · refine V_if_eq dX6_countVerbRows_62 (fun _ => ?_) (fun z => absurd (bI_f hb) z)
          refine V_iinc dX6_countVerbRows_68 rfl (ninc _) (by decide) (by dsimp only [List.set] <;> rfl) ?_
          refine V_goto dX6_countVerbRows_71 ?_
          rw [show rowsN (lkC C sl) (i + 1) = rowsN (lkC C sl) i + 0 from by rw [rowsN, bI_f hb], i_add0] at go
          exact go
      have key2 : ∀ (n j : Nat), j + n = i → V G l RX6 "countVerbRows" cX6_countVerbRows 5 (some .int) (rmd 3 0 0) E0 (Qm G (Rw G a (.int (rowsN (lkC C sl) tc)) C) sz 0 0) sz 0 0 23 [some (.ref (a + 0)), some (.int (rowsN (lkC C sl) i)), some (.int (nI i)), some (.int (bI (∀ q, q < j → lkC C sl i q = false))), some (.int (nI j))] [] (B G a C) := by
        intro n
        induction n with
        | zero =>
          intro j hj
          obtain rfl : j = i := by omega
          refine V_iload_n dX6_countVerbRows_23 rfl ?_
          by_cases hb : ∀ q, q < j → lkC C sl j q = false
          · refine V_if_eq dX6_countVerbRows_24 (fun z => absurd z (bI_ne0.mpr hb)) (fun _ => ?_)
            refine V_iload dX6_countVerbRows_27 rfl ?_
            refine V_iload_n dX6_countVerbRows_29 rfl ?_
            refine V_icmp_ge dX6_countVerbRows_30 (fun _ => ?_) (fun z => absurd ((cle (by repeat (first | with_reducible rfl | with_reducible exact nlit | with_reducible apply nadd | with_reducible apply nmul | with_reducible apply nsub | with_reducible assumption | omega)) (by repeat (first | with_reducible rfl | with_reducible exact nlit | with_reducible apply nadd | with_reducible apply nmul | with_reducible apply nsub | with_reducible assumption | omega)) (by omega) (by omega)).mpr (by omega)) z)
            exact fin _
          · refine V_if_eq dX6_countVerbRows_24 (fun _ => ?_) (fun z => absurd (bI_f hb) z)
            exact fin _
        | succ n ih2 =>
          intro j hj
          have go := ih2 (j + 1) (by omega)
          refine V_iload_n dX6_countVerbRows_23 rfl ?_
          by_cases hb : ∀ q, q < j → lkC C sl i q = false
          · refine V_if_eq dX6_countVerbRows_24 (fun z => absurd z (bI_ne0.mpr hb)) (fun _ => ?_)
            refine V_iload dX6_countVerbRows_27 rfl ?_
            refine V_iload_n dX6_countVerbRows_29 rfl ?_
            refine V_icmp_ge dX6_countVerbRows_30 (fun z => absurd z (fun z => absurd ((cle (by repeat (first | with_reducible rfl | with_reducible exact nlit | with_reducible apply nadd | with_reducible apply nmul | with_reducible apply nsub | with_reducible assumption | omega)) (by repeat (first | with_reducible rfl | with_reducible exact nlit | with_reducible apply nadd | with_reducible apply nmul | with_reducible apply nsub | with_reducible assumption | omega)) (by omega) (by omega)).mp z) (by omega))) (fun _ => ?_)
            refine V_aload_n dX6_countVerbRows_33 rfl ?_
            refine V_bget dX6_countVerbRows_34 fX6_12 (by decide) rfl (by (try simp only [mset_s, mset_n, pk_us, pk_un, ne_eq, Nat.reduceEqDiff, Nat.reduceAdd, not_false_eq_true, not_true_eq_false]) <;> rfl) ?_
            refine V_bget dX6_countVerbRows_37 fX6_74 (by decide) rfl (by (try simp only [mset_s, mset_n, pk_us, pk_un, ne_eq, Nat.reduceEqDiff, Nat.reduceAdd, not_false_eq_true, not_true_eq_false]) <;> rfl) ?_
            refine V_iload dX6_countVerbRows_40 rfl ?_
            refine V_iload_n dX6_countVerbRows_42 rfl ?_
            refine V_callVw dX6_countVerbRows_43 kX6_252 ykX3_haveSameVerbs (by decide) rfl rfl (tX3_haveSameVerbs (q := 4) (W := 12) (s := sl j) (s' := sl i) stk1.sh3 (by omega) (by omega) (hsl j (by omega)).1 (hsl i (by omega)).1 (hsl j (by omega)).2 (hsl i (by omega)).2) rfl (Nat.le_of_ble_eq_true rfl) ⟨by decide, by decide, by decide, by decide⟩ ?_
            by_cases hu : sl j = sl i ∧ ∀ k, k < sl j → C (4 + 1) (j * 12 + k) = C (4 + 1) (i * 12 + k)
            · refine V_if_ne dX6_countVerbRows_46 (fun _ => ?_) (fun z => absurd z ((bI_ne0.mpr hu)))
              refine V_iconst (v := 0) dX6_countVerbRows_53 (by decide) ?_
              refine V_istore_n dX6_countVerbRows_54 (by decide) (by dsimp only [List.set] <;> rfl) rfl ?_
              refine V_iinc dX6_countVerbRows_55 rfl (ninc _) (by decide) (by dsimp only [List.set] <;> rfl) ?_
              refine V_goto dX6_countVerbRows_58 ?_
              rw [bI_f (fun z => by have h1 := z j (by omega); rw [show lkC C sl i j = true from decide_eq_true hu] at h1; cases h1)] at go
              exact go
            · refine V_if_ne dX6_countVerbRows_46 (fun z => absurd z (fun z => z (bI_f hu))) (fun _ => ?_)
              refine V_iconst (v := 1) dX6_countVerbRows_49 (by decide) ?_
              refine V_goto dX6_countVerbRows_50 ?_
              refine V_istore_n dX6_countVerbRows_54 (by decide) (by dsimp only [List.set] <;> rfl) rfl ?_
              refine V_iinc dX6_countVerbRows_55 rfl (ninc _) (by decide) (by dsimp only [List.set] <;> rfl) ?_
              refine V_goto dX6_countVerbRows_58 ?_
              rw [bI_t (fun q hq => by
                rcases Nat.lt_or_ge q j with z | z
                · exact hb q z
                · obtain rfl : q = j := by omega
                  exact decide_eq_false hu)] at go
              exact go
          · refine V_if_eq dX6_countVerbRows_24 (fun _ => ?_) (fun z => absurd (bI_f hb) z)
            have f1 := fin (some (.int (nI j)))
            rw [bI_f (fun z => hb (fun q hq => z q (by omega)))] at f1
            rw [bI_f hb]
            exact f1
      refine V_iconst (v := 1) dX6_countVerbRows_18 (by decide) ?_
      refine V_istore_n dX6_countVerbRows_19 (by decide) (by dsimp only [List.set] <;> rfl) rfl ?_
      refine V_iconst (v := 0) dX6_countVerbRows_20 (by decide) ?_
      refine V_istore dX6_countVerbRows_21 (by decide) (by dsimp only [List.set] <;> rfl) rfl ?_
      have k0 := key2 i 0 (by omega)
      rw [bI_t (fun q hq => absurd hq (by omega))] at k0
      exact k0
  refine V_iconst (v := 0) dX6_countVerbRows_0 (by decide) ?_
  refine V_istore_n dX6_countVerbRows_1 (by decide) (by dsimp only [List.set] <;> rfl) rfl ?_
  refine V_iconst (v := 0) dX6_countVerbRows_2 (by decide) ?_
  refine V_istore_n dX6_countVerbRows_3 (by decide) (by dsimp only [List.set] <;> rfl) rfl ?_
  exact key tc 0 none none (by omega)
def totC (C : CT) (sl : Nat → Nat) (tc w : Nat) : Int32 :=
  if w = 0 then C 2 0 else if w = 1 then sumF (C 3) 30 else if w = 2 then C 4 0 else if w = 3 then (if C 1 0 = 1 then C 8 tc else -5) else if w = 4 then C 10 0
  else if w < 9 then C 1 (w - 4) else if w = 9 then rowsN (lkC C sl) tc else if w = 10 then C 16 0 else C 93 0
set_option maxHeartbeats 4000000 in
theorem tX6_total_o (x1 : Int32) (hx : ¬ isIx x1 12) : Ct G l yX6_total cX6_total 2 (some .int) 4 0 0 sz [.ref a, .int x1] (B G a C) (Rw G a (.int (-2)) C) := by
  refine Ct.of (own := RX6) (mn := "total") (L0 := [some (.ref (a + 0)), some (.int x1)]) (by decide +kernel) rfl rfl rfl (Nat.le_of_ble_eq_true rfl) rfl ?_
  refine V_iload_n dX6_total_0 rfl ?_
  refine V_tOut (tg := 184) dX6_total_1 (by unfold isIx at hx; omega) rfl ?_
  refine V_bipush (v := (-2)) dX6_total_184 (by decide) ?_
  refine V_iret dX6_total_186 rfl rfl rfl ?_
  exact Rw_i rfl rfl
set_option maxHeartbeats 4000000 in
theorem tX6_total {tc w : Nat} {sl : Nat → Nat} (hw : w < 12) (h4 : C 4 0 = nI tc) (htc : tc ≤ 6) (hsl : ∀ i, i < tc → C 8 i = nI (sl i) ∧ sl i ≤ 12) (hop : C 1 0 = 0 ∨ C 1 0 = 1) (hot : C 1 0 = 1 → tc < 6) : Ct G l yX6_total cX6_total 2 (some .int) 4 0 0 sz [.ref a, .int (nI w)] (B G a C) (Rw G a (.int (totC C sl tc w)) C) := by
  refine Ct.of (own := RX6) (mn := "total") (L0 := [some (.ref (a + 0)), some (.int (nI w))]) (by decide +kernel) rfl rfl rfl (Nat.le_of_ble_eq_true rfl) rfl ?_
  refine V_iload_n dX6_total_0 rfl ?_
  rcases (show w = 0 ∨ w = 1 ∨ w = 2 ∨ w = 3 ∨ w = 4 ∨ w = 5 ∨ w = 6 ∨ w = 7 ∨ w = 8 ∨ w = 9 ∨ w = 10 ∨ w = 11 by omega) with z | z | z | z | z | z | z | z | z | z | z | z
  · refine V_tIn (tg := 64) dX6_total_1 (by rw [z]; decide) (by rw [z]; decide) (by rw [z]; rfl) rfl ?_
    refine V_aload_n dX6_total_64 rfl ?_
    refine V_bget dX6_total_65 fX6_12 (by decide) rfl (by (try simp only [mset_s, mset_n, pk_us, pk_un, ne_eq, Nat.reduceEqDiff, Nat.reduceAdd, not_false_eq_true, not_true_eq_false]) <;> rfl) ?_
    refine V_bget dX6_total_68 fX6_88 (by decide) rfl (by (try simp only [mset_s, mset_n, pk_us, pk_un, ne_eq, Nat.reduceEqDiff, Nat.reduceAdd, not_false_eq_true, not_true_eq_false]) <;> rfl) ?_
    refine V_bget dX6_total_71 fX6_191 (by decide) rfl (by (try simp only [mset_s, mset_n, pk_us, pk_un, ne_eq, Nat.reduceEqDiff, Nat.reduceAdd, not_false_eq_true, not_true_eq_false]) <;> rfl) ?_
    refine V_iret dX6_total_74 rfl rfl rfl ?_
    exact Rw_i (by rw [z]; rfl) rfl
  · refine V_tIn (tg := 75) dX6_total_1 (by rw [z]; decide) (by rw [z]; decide) (by rw [z]; rfl) rfl ?_
    refine V_aload_n dX6_total_75 rfl ?_
    refine V_bget dX6_total_76 fX6_12 (by decide) rfl (by (try simp only [mset_s, mset_n, pk_us, pk_un, ne_eq, Nat.reduceEqDiff, Nat.reduceAdd, not_false_eq_true, not_true_eq_false]) <;> rfl) ?_
    refine V_bget dX6_total_79 fX6_88 (by decide) rfl (by (try simp only [mset_s, mset_n, pk_us, pk_un, ne_eq, Nat.reduceEqDiff, Nat.reduceAdd, not_false_eq_true, not_true_eq_false]) <;> rfl) ?_
    refine V_callVw dX6_total_82 kX6_194 ykX2_sum (by decide) rfl rfl (tX2_sum (q := 2) stk1.ro) rfl (Nat.le_of_ble_eq_true rfl) ⟨by decide, by decide, by decide, by decide⟩ ?_
    refine V_iret dX6_total_85 rfl rfl rfl ?_
    exact Rw_i (by rw [z]; rfl) rfl
  · refine V_tIn (tg := 86) dX6_total_1 (by rw [z]; decide) (by rw [z]; decide) (by rw [z]; rfl) rfl ?_
    refine V_aload_n dX6_total_86 rfl ?_
    refine V_bget dX6_total_87 fX6_12 (by decide) rfl (by (try simp only [mset_s, mset_n, pk_us, pk_un, ne_eq, Nat.reduceEqDiff, Nat.reduceAdd, not_false_eq_true, not_true_eq_false]) <;> rfl) ?_
    refine V_bget dX6_total_90 fX6_74 (by decide) rfl (by (try simp only [mset_s, mset_n, pk_us, pk_un, ne_eq, Nat.reduceEqDiff, Nat.reduceAdd, not_false_eq_true, not_true_eq_false]) <;> rfl) ?_
    refine V_bget dX6_total_93 fX6_78 (by decide) rfl (by (try simp only [mset_s, mset_n, pk_us, pk_un, ne_eq, Nat.reduceEqDiff, Nat.reduceAdd, not_false_eq_true, not_true_eq_false]) <;> rfl) ?_
    refine V_iret dX6_total_96 rfl rfl rfl ?_
    exact Rw_i (by rw [z]; rfl) rfl
  · refine V_tIn (tg := 97) dX6_total_1 (by rw [z]; decide) (by rw [z]; decide) (by rw [z]; rfl) rfl ?_
    refine V_aload_n dX6_total_97 rfl ?_
    refine V_bget dX6_total_98 fX6_12 (by decide) rfl (by (try simp only [mset_s, mset_n, pk_us, pk_un, ne_eq, Nat.reduceEqDiff, Nat.reduceAdd, not_false_eq_true, not_true_eq_false]) <;> rfl) ?_
    refine V_bget dX6_total_101 fX6_59 (by decide) rfl (by (try simp only [mset_s, mset_n, pk_us, pk_un, ne_eq, Nat.reduceEqDiff, Nat.reduceAdd, not_false_eq_true, not_true_eq_false]) <;> rfl) ?_
    rcases hop with o | o
    · refine V_if_eq dX6_total_104 (fun _ => ?_) (fun z => absurd o z)
      refine V_bipush (v := (-5)) dX6_total_117 (by decide) ?_
      refine V_iret dX6_total_119 rfl rfl rfl ?_
      exact Rw_i (by rw [z]; show _ = if C 1 0 = 1 then C 8 tc else -5; rw [if_neg (by rw [o]; decide)]) rfl
    · refine V_if_eq dX6_total_104 (fun z => absurd z (by rw [o]; decide)) (fun _ => ?_)
      refine V_aload_n dX6_total_107 rfl ?_
      refine V_bget dX6_total_108 fX6_12 (by decide) rfl (by (try simp only [mset_s, mset_n, pk_us, pk_un, ne_eq, Nat.reduceEqDiff, Nat.reduceAdd, not_false_eq_true, not_true_eq_false]) <;> rfl) ?_
      refine V_callVw dX6_total_111 kX6_63 ykX4_openSize (by decide) rfl rfl (tX4_openSize h4 (hot o)) rfl (Nat.le_of_ble_eq_true rfl) ⟨by decide, by decide, by decide, by decide⟩ ?_
      refine V_goto dX6_total_114 ?_
      refine V_iret dX6_total_119 rfl rfl rfl ?_
      exact Rw_i (by rw [z]; show _ = if C 1 0 = 1 then C 8 tc else -5; rw [if_pos o]) rfl
  · refine V_tIn (tg := 120) dX6_total_1 (by rw [z]; decide) (by rw [z]; decide) (by rw [z]; rfl) rfl ?_
    refine V_aload_n dX6_total_120 rfl ?_
    refine V_bget dX6_total_121 fX6_12 (by decide) rfl (by (try simp only [mset_s, mset_n, pk_us, pk_un, ne_eq, Nat.reduceEqDiff, Nat.reduceAdd, not_false_eq_true, not_true_eq_false]) <;> rfl) ?_
    refine V_bget dX6_total_124 fX6_115 (by decide) rfl (by (try simp only [mset_s, mset_n, pk_us, pk_un, ne_eq, Nat.reduceEqDiff, Nat.reduceAdd, not_false_eq_true, not_true_eq_false]) <;> rfl) ?_
    refine V_bget dX6_total_127 fX6_78 (by decide) rfl (by (try simp only [mset_s, mset_n, pk_us, pk_un, ne_eq, Nat.reduceEqDiff, Nat.reduceAdd, not_false_eq_true, not_true_eq_false]) <;> rfl) ?_
    refine V_iret dX6_total_130 rfl rfl rfl ?_
    exact Rw_i (by rw [z]; rfl) rfl
  · refine V_tIn (tg := 131) dX6_total_1 (by rw [z]; decide) (by rw [z]; decide) (by rw [z]; rfl) rfl ?_
    refine V_aload_n dX6_total_131 rfl ?_
    refine V_bget dX6_total_132 fX6_12 (by decide) rfl (by (try simp only [mset_s, mset_n, pk_us, pk_un, ne_eq, Nat.reduceEqDiff, Nat.reduceAdd, not_false_eq_true, not_true_eq_false]) <;> rfl) ?_
    refine V_bget dX6_total_135 fX6_197 (by decide) rfl (by (try simp only [mset_s, mset_n, pk_us, pk_un, ne_eq, Nat.reduceEqDiff, Nat.reduceAdd, not_false_eq_true, not_true_eq_false]) <;> rfl) ?_
    refine V_iret dX6_total_138 rfl rfl rfl ?_
    exact Rw_i (by rw [z]; rfl) rfl
  · refine V_tIn (tg := 139) dX6_total_1 (by rw [z]; decide) (by rw [z]; decide) (by rw [z]; rfl) rfl ?_
    refine V_aload_n dX6_total_139 rfl ?_
    refine V_bget dX6_total_140 fX6_12 (by decide) rfl (by (try simp only [mset_s, mset_n, pk_us, pk_un, ne_eq, Nat.reduceEqDiff, Nat.reduceAdd, not_false_eq_true, not_true_eq_false]) <;> rfl) ?_
    refine V_bget dX6_total_143 fX6_200 (by decide) rfl (by (try simp only [mset_s, mset_n, pk_us, pk_un, ne_eq, Nat.reduceEqDiff, Nat.reduceAdd, not_false_eq_true, not_true_eq_false]) <;> rfl) ?_
    refine V_iret dX6_total_146 rfl rfl rfl ?_
    exact Rw_i (by rw [z]; rfl) rfl
  · refine V_tIn (tg := 147) dX6_total_1 (by rw [z]; decide) (by rw [z]; decide) (by rw [z]; rfl) rfl ?_
    refine V_aload_n dX6_total_147 rfl ?_
    refine V_bget dX6_total_148 fX6_12 (by decide) rfl (by (try simp only [mset_s, mset_n, pk_us, pk_un, ne_eq, Nat.reduceEqDiff, Nat.reduceAdd, not_false_eq_true, not_true_eq_false]) <;> rfl) ?_
    refine V_bget dX6_total_151 fX6_203 (by decide) rfl (by (try simp only [mset_s, mset_n, pk_us, pk_un, ne_eq, Nat.reduceEqDiff, Nat.reduceAdd, not_false_eq_true, not_true_eq_false]) <;> rfl) ?_
    refine V_iret dX6_total_154 rfl rfl rfl ?_
    exact Rw_i (by rw [z]; rfl) rfl
  · refine V_tIn (tg := 155) dX6_total_1 (by rw [z]; decide) (by rw [z]; decide) (by rw [z]; rfl) rfl ?_
    refine V_aload_n dX6_total_155 rfl ?_
    refine V_bget dX6_total_156 fX6_12 (by decide) rfl (by (try simp only [mset_s, mset_n, pk_us, pk_un, ne_eq, Nat.reduceEqDiff, Nat.reduceAdd, not_false_eq_true, not_true_eq_false]) <;> rfl) ?_
    refine V_bget dX6_total_159 fX6_206 (by decide) rfl (by (try simp only [mset_s, mset_n, pk_us, pk_un, ne_eq, Nat.reduceEqDiff, Nat.reduceAdd, not_false_eq_true, not_true_eq_false]) <;> rfl) ?_
    refine V_iret dX6_total_162 rfl rfl rfl ?_
    exact Rw_i (by rw [z]; rfl) rfl
  · refine V_tIn (tg := 163) dX6_total_1 (by rw [z]; decide) (by rw [z]; decide) (by rw [z]; rfl) rfl ?_
    refine V_aload_n dX6_total_163 rfl ?_
    refine V_callVw dX6_total_164 kX6_209 ykX6_countVerbRows (j := 0) (by decide) rfl rfl (tX6_countVerbRows h4 htc hsl) rfl (Nat.le_of_ble_eq_true rfl) ⟨by decide, by decide, by decide, by decide⟩ ?_
    refine V_iret dX6_total_167 rfl rfl rfl ?_
    exact Rw_i (by rw [z]; rfl) rfl
  · refine V_tIn (tg := 168) dX6_total_1 (by rw [z]; decide) (by rw [z]; decide) (by rw [z]; rfl) rfl ?_
    refine V_aload_n dX6_total_168 rfl ?_
    refine V_bget dX6_total_169 fX6_19 (by decide) rfl (by (try simp only [mset_s, mset_n, pk_us, pk_un, ne_eq, Nat.reduceEqDiff, Nat.reduceAdd, not_false_eq_true, not_true_eq_false]) <;> rfl) ?_
    refine V_bget dX6_total_172 fX6_168 (by decide) rfl (by (try simp only [mset_s, mset_n, pk_us, pk_un, ne_eq, Nat.reduceEqDiff, Nat.reduceAdd, not_false_eq_true, not_true_eq_false]) <;> rfl) ?_
    refine V_iret dX6_total_175 rfl rfl rfl ?_
    exact Rw_i (by rw [z]; rfl) rfl
  · refine V_tIn (tg := 176) dX6_total_1 (by rw [z]; decide) (by rw [z]; decide) (by rw [z]; rfl) rfl ?_
    refine V_aload_n dX6_total_176 rfl ?_
    refine V_bget dX6_total_177 fX6_29 (by decide) rfl (by (try simp only [mset_s, mset_n, pk_us, pk_un, ne_eq, Nat.reduceEqDiff, Nat.reduceAdd, not_false_eq_true, not_true_eq_false]) <;> rfl) ?_
    refine V_bget dX6_total_180 fX6_145 (by decide) rfl (by (try simp only [mset_s, mset_n, pk_us, pk_un, ne_eq, Nat.reduceEqDiff, Nat.reduceAdd, not_false_eq_true, not_true_eq_false]) <;> rfl) ?_
    refine V_iret dX6_total_183 rfl rfl rfl ?_
    exact Rw_i (by rw [z]; rfl) rfl
end CLS
