/-! TryLoops: canGeneralise, makeLoop, generalise, riseAt, repeatsBy, leastPeriod, fold. -/
/-- f with v 0 .. v (k-1) from place b on -/
def fil (f : Nat → Int32) (b : Nat) (v : Nat → Int32) (k : Nat) : Nat → Int32 := fun j => if b ≤ j ∧ j < b + k then v (j - b) else f j
theorem fil_0 {f v : Nat → Int32} {b : Nat} : fil f b v 0 = f := by funext j; unfold fil; rw [if_neg (by omega)]
theorem fil_s {f v : Nat → Int32} {b k : Nat} : upd (fil f b v k) (b + k) (v k) = fil f b v (k + 1) := by
  funext j
  unfold upd fil
  by_cases h : j = b + k
  · rw [if_pos h, if_pos (by omega), h, Nat.add_sub_cancel_left]
  · rw [if_neg h]
    by_cases h2 : b ≤ j ∧ j < b + k
    · rw [if_pos h2, if_pos (by omega)]
    · rw [if_neg h2, if_neg (by omega)]
theorem fil_at {f v : Nat → Int32} {b k i : Nat} (h : i < k) : fil f b v k (b + i) = v i := by unfold fil; rw [if_pos (by omega), Nat.add_sub_cancel_left]
theorem fil_out {f v : Nat → Int32} {b k j : Nat} (h : j < b ∨ b + k ≤ j) : fil f b v k j = f j := by unfold fil; rw [if_neg (by omega)]
/-- the loop lc under way: k steps of it -/
def mkC (C : CT) (lc : Nat) (v m t : Nat → Int32) (k : Nat) : CT := mset (mset (mset (mset C 11 (fil (C 11) (lc * 12) v k)) 12 (fil (C 12) (lc * 12) m k)) 13 (fil (C 13) (lc * 12) t k)) 14 (upd (C 14) lc (nI k))
theorem mkC_s {C : CT} {lc k : Nat} {v m t : Nat → Int32} : apS (mkC C lc v m t k) 10 12 lc k (v k) (m k) (t k) = mkC C lc v m t (k + 1) := by
  unfold apS mkC
  funext i
  by_cases h1 : i = 14
  · subst h1; rw [mset_s, mset_s, mset_s, uus]
  rw [mset_n h1, mset_n h1]
  by_cases h2 : i = 13
  · subst h2
    rw [mset_s, mset_s, mset_n (by decide), mset_s, fil_s]
  rw [mset_n h2, mset_n h2]
  by_cases h3 : i = 12
  · subst h3
    rw [mset_s, mset_s, mset_n (by decide), mset_n (by decide), mset_s, fil_s]
  rw [mset_n h3, mset_n h3]
  by_cases h4 : i = 11
  · subst h4
    rw [mset_s, mset_s, mset_n (by decide), mset_n (by decide), mset_n (by decide), mset_s, fil_s]
  rw [mset_n h4, mset_n h4, mset_n h1, mset_n h2, mset_n h3, mset_n h4]
theorem mkC_n {C : CT} {lc k i : Nat} {v m t : Nat → Int32} (h : i < 11 ∨ 14 < i) : mkC C lc v m t k i = C i := by
  unfold mkC
  rw [mset_n (by omega), mset_n (by omega), mset_n (by omega), mset_n (by omega)]
abbrev vT (C : CT) (n k : Nat) : Int32 := C 5 (n * 12 + k)
abbrev nT (C : CT) (n k : Nat) : Int32 := C 6 (n * 12 + k)
/-- the class's loops behind makeLoop -/
def mlC (C : CT) (lc i j off size : Nat) (t : Int32) : CT := mset (mset (mkC C lc (vT C i) (nT C i) (fun k => nT C j (off + k) - nT C i k) size) 15 (upd (C 15) lc t)) 10 (upd (C 10) 0 (nI (lc + 1)))
section CLS
variable {G : GT} {l : Launch} {sz a : Nat} {C : CT}
set_option maxHeartbeats 4000000 in
theorem tX6_makeLoop {lc i j off size : Nat} {t : Int32} (h10 : C 10 0 = nI lc) (hlc : lc < 6) (hi : i < 6) (hj : j < 6) (hs : off + size ≤ 12) : Ct G l yX6_makeLoop cX6_makeLoop 11 (some .int) 2 0 0 sz [.ref a, .int (nI i), .int (nI j), .int (nI off), .int (nI size), .int t] (B G a C) (Rw G a (.int (nI lc)) (mlC C lc i j off size t)) := by
  refine Ct.of (own := RX6) (mn := "makeLoop") (L0 := [some (.ref (a + 0)), some (.int (nI i)), some (.int (nI j)), some (.int (nI off)), some (.int (nI size)), some (.int t), none, none, none, none, none]) (by decide +kernel) rfl rfl rfl (Nat.le_of_ble_eq_true rfl) rfl ?_
  refine V_aload_n dX6_makeLoop_0 rfl ?_
  refine V_bget dX6_makeLoop_1 fX6_12 (by decide) rfl (by (try simp only [mset_s, mset_n, pk_us, pk_un, ne_eq, Nat.reduceEqDiff, Nat.reduceAdd, not_false_eq_true, not_true_eq_false]) <;> rfl) ?_
  refine V_bget dX6_makeLoop_4 fX6_74 (by decide) rfl (by (try simp only [mset_s, mset_n, pk_us, pk_un, ne_eq, Nat.reduceEqDiff, Nat.reduceAdd, not_false_eq_true, not_true_eq_false]) <;> rfl) ?_
  refine V_astore dX6_makeLoop_7 (by decide) (by dsimp only [List.set] <;> rfl) rfl ?_
  refine V_aload_n dX6_makeLoop_9 rfl ?_
  refine V_bget dX6_makeLoop_10 fX6_12 (by decide) rfl (by (try simp only [mset_s, mset_n, pk_us, pk_un, ne_eq, Nat.reduceEqDiff, Nat.reduceAdd, not_false_eq_true, not_true_eq_false]) <;> rfl) ?_
  refine V_bget dX6_makeLoop_13 fX6_115 (by decide) rfl (by (try simp only [mset_s, mset_n, pk_us, pk_un, ne_eq, Nat.reduceEqDiff, Nat.reduceAdd, not_false_eq_true, not_true_eq_false]) <;> rfl) ?_
  refine V_callVu dX6_makeLoop_16 kX6_98 ykX3_emptyNext (by decide) rfl rfl (tX3_emptyNext (q := 10) (cnt := lc) stk1.sh9 h10 (by omega)) rfl (Nat.le_of_ble_eq_true rfl) ⟨by decide, by decide, by decide, by decide⟩ ?_
  rw [if_pos hlc]
  have e0 : mset C (10 + 4) (upd (C (10 + 4)) lc 0) = mkC C lc (vT C i) (nT C i) (fun k => nT C j (off + k) - nT C i k) 0 := by
    unfold mkC
    rw [fil_0, fil_0, fil_0, mset_eta, mset_eta, mset_eta]
    rfl
  rw [e0]
  refine V_aload_n dX6_makeLoop_19 rfl ?_
  refine V_bget dX6_makeLoop_20 fX6_12 (by decide) rfl (by (try simp only [mset_s, mset_n, pk_us, pk_un, ne_eq, Nat.reduceEqDiff, Nat.reduceAdd, not_false_eq_true, not_true_eq_false]) <;> rfl) ?_
  refine V_bget dX6_makeLoop_23 fX6_115 (by decide) rfl (by (try simp only [mset_s, mset_n, pk_us, pk_un, ne_eq, Nat.reduceEqDiff, Nat.reduceAdd, not_false_eq_true, not_true_eq_false]) <;> rfl) ?_
  refine V_bget dX6_makeLoop_26 fX6_78 (by decide) rfl (by (try simp only [mset_s, mset_n, pk_us, pk_un, ne_eq, Nat.reduceEqDiff, Nat.reduceAdd, not_false_eq_true, not_true_eq_false]) <;> rfl) ?_
  rw [mkC_n (i := 10) (by decide), h10]
  refine V_istore dX6_makeLoop_29 (by decide) (by dsimp only [List.set] <;> rfl) rfl ?_
  refine V_iconst (v := 0) dX6_makeLoop_31 (by decide) ?_
  refine V_istore dX6_makeLoop_32 (by decide) (by dsimp only [List.set] <;> rfl) rfl ?_
  have key : ∀ (m k : Nat) (L9 L10 : Option Value), k + m = size → V G l RX6 "makeLoop" cX6_makeLoop 11 (some .int) (rmd 2 0 0) E0 (Qm G (Rw G a (.int (nI lc)) (mlC C lc i j off size t)) sz 0 0) sz 0 0 34 [some (.ref (a + 0)), some (.int (nI i)), some (.int (nI j)), some (.int (nI off)), some (.int (nI size)), some (.int t), some (.ref (a + 4)), some (.int (nI lc)), some (.int (nI k)), L9, L10] [] (B G a (mkC C lc (vT C i) (nT C i) (fun k => nT C j (off + k) - nT C i k) k)) := by
    intro m
    induction m with
    | zero =>
      intro k L9 L10 hk
      obtain rfl : k = size := by omega
      refine V_iload dX6_makeLoop_34 rfl ?_
      refine V_iload dX6_makeLoop_36 rfl ?_
      refine V_icmp_ge dX6_makeLoop_38 (fun _ => ?_) (fun z => absurd ((cle (by repeat (first | with_reducible rfl | with_reducible exact nlit | with_reducible apply nadd | with_reducible apply nmul | with_reducible apply nsub | with_reducible assumption | omega)) (by repeat (first | with_reducible rfl | with_reducible exact nlit | with_reducible apply nadd | with_reducible apply nmul | with_reducible apply nsub | with_reducible assumption | omega)) (by omega) (by omega)).mpr (by omega)) z)
      refine V_aload_n dX6_makeLoop_96 rfl ?_
      refine V_bget dX6_makeLoop_97 fX6_12 (by decide) rfl (by (try simp only [mset_s, mset_n, pk_us, pk_un, ne_eq, Nat.reduceEqDiff, Nat.reduceAdd, not_false_eq_true, not_true_eq_false]) <;> rfl) ?_
      refine V_bget dX6_makeLoop_100 fX6_115 (by decide) rfl (by (try simp only [mset_s, mset_n, pk_us, pk_un, ne_eq, Nat.reduceEqDiff, Nat.reduceAdd, not_false_eq_true, not_true_eq_false]) <;> rfl) ?_
      refine V_iload dX6_makeLoop_103 rfl ?_
      refine V_callVw dX6_makeLoop_105 kX6_101 ykX3_keepNext (by decide) rfl rfl (tX3_keepNext (q := 10) (cnt := lc) stk1.sh9 (by rw [mkC_n (by decide)]; exact h10) hlc) rfl (Nat.le_of_ble_eq_true rfl) ⟨by decide, by decide, by decide, by decide⟩ ?_
      refine V_iret dX6_makeLoop_108 rfl rfl rfl ?_
      refine Rw_i rfl ?_
      unfold mlC
      rw [mkC_n (i := 10) (by decide), show mkC C lc (vT C i) (nT C i) (fun k => nT C j (off + k) - nT C i k) k (10 + 5) = C 15 from mkC_n (by decide)]
    | succ m ih =>
      intro k L9 L10 hk
      refine V_iload dX6_makeLoop_34 rfl ?_
      refine V_iload dX6_makeLoop_36 rfl ?_
      refine V_icmp_ge dX6_makeLoop_38 (fun z => absurd z (fun z => absurd ((cle (by repeat (first | with_reducible rfl | with_reducible exact nlit | with_reducible apply nadd | with_reducible apply nmul | with_reducible apply nsub | with_reducible assumption | omega)) (by repeat (first | with_reducible rfl | with_reducible exact nlit | with_reducible apply nadd | with_reducible apply nmul | with_reducible apply nsub | with_reducible assumption | omega)) (by omega) (by omega)).mp z) (by omega))) (fun _ => ?_)
      refine V_aload dX6_makeLoop_41 rfl ?_
      refine V_iload_n dX6_makeLoop_43 rfl ?_
      refine V_iload dX6_makeLoop_44 rfl ?_
      refine V_callVw dX6_makeLoop_46 kX6_161 ykX3_numberAt (by decide) rfl rfl (tX3_numberAt (q := 4) (W := 12) stk1.sh3 hi (by omega)) rfl (Nat.le_of_ble_eq_true rfl) ⟨by decide, by decide, by decide, by decide⟩ ?_
      refine V_istore dX6_makeLoop_49 (by decide) (by dsimp only [List.set] <;> rfl) rfl ?_
      refine V_aload dX6_makeLoop_51 rfl ?_
      refine V_iload_n dX6_makeLoop_53 rfl ?_
      refine V_iload_n dX6_makeLoop_54 rfl ?_
      refine V_iload dX6_makeLoop_55 rfl ?_
      refine V_iadd dX6_makeLoop_57 ?_
      rw [nI_add]
      refine V_callVw dX6_makeLoop_58 kX6_161 ykX3_numberAt (by decide) rfl rfl (tX3_numberAt (q := 4) (W := 12) stk1.sh3 hj (by omega)) rfl (Nat.le_of_ble_eq_true rfl) ⟨by decide, by decide, by decide, by decide⟩ ?_
      refine V_iload dX6_makeLoop_61 rfl ?_
      refine V_isub dX6_makeLoop_63 ?_
      refine V_istore dX6_makeLoop_64 (by decide) (by dsimp only [List.set] <;> rfl) rfl ?_
      refine V_aload_n dX6_makeLoop_66 rfl ?_
      refine V_bget dX6_makeLoop_67 fX6_12 (by decide) rfl (by (try simp only [mset_s, mset_n, pk_us, pk_un, ne_eq, Nat.reduceEqDiff, Nat.reduceAdd, not_false_eq_true, not_true_eq_false]) <;> rfl) ?_
      refine V_bget dX6_makeLoop_70 fX6_115 (by decide) rfl (by (try simp only [mset_s, mset_n, pk_us, pk_un, ne_eq, Nat.reduceEqDiff, Nat.reduceAdd, not_false_eq_true, not_true_eq_false]) <;> rfl) ?_
      refine V_iload dX6_makeLoop_73 rfl ?_
      refine V_aload dX6_makeLoop_75 rfl ?_
      refine V_iload_n dX6_makeLoop_77 rfl ?_
      refine V_iload dX6_makeLoop_78 rfl ?_
      refine V_callVw dX6_makeLoop_80 kX6_157 ykX3_verbAt (by decide) rfl rfl (tX3_verbAt (q := 4) (W := 12) stk1.sh3 hi (by omega)) rfl (Nat.le_of_ble_eq_true rfl) ⟨by decide, by decide, by decide, by decide⟩ ?_
      refine V_iload dX6_makeLoop_83 rfl ?_
      refine V_iload dX6_makeLoop_85 rfl ?_
      refine V_callVu dX6_makeLoop_87 kX6_84 ykX3_append (by decide) rfl rfl (tX3_append (q := 10) (W := 12) (N := 6) (n := lc) (s := k) stk1.sh9 hlc (by unfold mkC; rw [mset_s, pk_us]) (by omega)) rfl (Nat.le_of_ble_eq_true rfl) ⟨by decide, by decide, by decide, by decide⟩ ?_
      rw [if_pos (by omega), show mkC C lc (vT C i) (nT C i) (fun k => nT C j (off + k) - nT C i k) k (4 + 1) = C 5 from mkC_n (by decide), show mkC C lc (vT C i) (nT C i) (fun k => nT C j (off + k) - nT C i k) k (4 + 2) = C 6 from mkC_n (by decide)]
      have ms := mkC_s (C := C) (lc := lc) (k := k) (v := vT C i) (m := nT C i) (t := fun k => nT C j (off + k) - nT C i k)
      simp only [vT, nT] at ms
      rw [ms]
      refine V_iinc dX6_makeLoop_90 rfl (ninc _) (by decide) (by dsimp only [List.set] <;> rfl) ?_
      refine V_goto dX6_makeLoop_93 ?_
      exact ih (k + 1) _ _ (by omega)
  exact key size 0 _ _ (by omega)
set_option maxHeartbeats 4000000 in
theorem tX6_canGeneralise {i j si sj : Nat} (hi : i < 6) (hj : j < 6) (hsi : C 8 i = nI si) (hsj : C 8 j = nI sj) (h1 : si ≤ 12) (h2 : sj ≤ 12) : Ct G l yX6_canGeneralise cX6_canGeneralise 3 (some .boolean) 3 0 0 sz [.ref a, .int (nI i), .int (nI j)] (B G a C) (Rw G a (.int (bI (i ≠ j ∧ (si = sj ∧ ∀ k, k < si → C (4 + 1) (i * 12 + k) = C (4 + 1) (j * 12 + k))))) C) := by
  refine Ct.of (own := RX6) (mn := "canGeneralise") (L0 := [some (.ref (a + 0)), some (.int (nI i)), some (.int (nI j))]) (by decide +kernel) rfl rfl rfl (Nat.le_of_ble_eq_true rfl) rfl ?_
  refine V_iload_n dX6_canGeneralise_0 rfl ?_
  refine V_iload_n dX6_canGeneralise_1 rfl ?_
  by_cases hij : i = j
  · refine V_icmp_eq dX6_canGeneralise_2 (fun _ => ?_) (fun z => absurd (by rw [hij]) z)
    refine V_iconst (v := 0) dX6_canGeneralise_24 (by decide) ?_
    refine V_zret dX6_canGeneralise_25 rfl (by first | rfl | exact bI_nar) rfl rfl ?_
    exact Rw_i (bI_f (fun q => q.1 hij)).symm rfl
  · refine V_icmp_eq dX6_canGeneralise_2 (fun z => absurd z (fun z => absurd ((ceq (by repeat (first | with_reducible rfl | with_reducible exact nlit | with_reducible apply nadd | with_reducible apply nmul | with_reducible apply nsub | with_reducible assumption | omega)) (by repeat (first | with_reducible rfl | with_reducible exact nlit | with_reducible apply nadd | with_reducible apply nmul | with_reducible apply nsub | with_reducible assumption | omega)) (by omega) (by omega)).mp z) (by omega))) (fun _ => ?_)
    refine V_aload_n dX6_canGeneralise_5 rfl ?_
    refine V_bget dX6_canGeneralise_6 fX6_12 (by decide) rfl (by (try simp only [mset_s, mset_n, pk_us, pk_un, ne_eq, Nat.reduceEqDiff, Nat.reduceAdd, not_false_eq_true, not_true_eq_false]) <;> rfl) ?_
    refine V_bget dX6_canGeneralise_9 fX6_74 (by decide) rfl (by (try simp only [mset_s, mset_n, pk_us, pk_un, ne_eq, Nat.reduceEqDiff, Nat.reduceAdd, not_false_eq_true, not_true_eq_false]) <;> rfl) ?_
    refine V_iload_n dX6_canGeneralise_12 rfl ?_
    refine V_iload_n dX6_canGeneralise_13 rfl ?_
    refine V_callVw dX6_canGeneralise_14 kX6_252 ykX3_haveSameVerbs (by decide) rfl rfl (tX3_haveSameVerbs (q := 4) (W := 12) stk1.sh3 hi hj hsi hsj h1 h2) rfl (Nat.le_of_ble_eq_true rfl) ⟨by decide, by decide, by decide, by decide⟩ ?_
    by_cases hu : si = sj ∧ ∀ k, k < si → C (4 + 1) (i * 12 + k) = C (4 + 1) (j * 12 + k)
    · refine V_if_eq dX6_canGeneralise_17 (fun z => absurd z (bI_ne0.mpr hu)) (fun _ => ?_)
      refine V_iconst (v := 1) dX6_canGeneralise_20 (by decide) ?_
      refine V_goto dX6_canGeneralise_21 ?_
      refine V_zret dX6_canGeneralise_25 rfl (by first | rfl | exact bI_nar) rfl rfl ?_
      exact Rw_i (bI_t ⟨hij, hu⟩).symm rfl
    · refine V_if_eq dX6_canGeneralise_17 (fun _ => ?_) (fun z => absurd (bI_f hu) z)
      refine V_iconst (v := 0) dX6_canGeneralise_24 (by decide) ?_
      refine V_zret dX6_canGeneralise_25 rfl (by first | rfl | exact bI_nar) rfl rfl ?_
      exact Rw_i (bI_f (fun q => hu q.2)).symm rfl
theorem tX6_riseAt {n k s : Nat} (hn : n < 6) (hk : k < 12) (hs : s ≤ k) : Ct G l yX6_riseAt cX6_riseAt 4 (some .int) 2 0 0 sz [.ref a, .int (nI n), .int (nI k), .int (nI s)] (B G a C) (Rw G a (.int (nT C n k - nT C n (k - s))) C) := by
  refine Ct.of (own := RX6) (mn := "riseAt") (L0 := [some (.ref (a + 0)), some (.int (nI n)), some (.int (nI k)), some (.int (nI s))]) (by decide +kernel) rfl rfl rfl (Nat.le_of_ble_eq_true rfl) rfl ?_
  refine V_aload_n dX6_riseAt_0 rfl ?_
  refine V_bget dX6_riseAt_1 fX6_12 (by decide) rfl (by (try simp only [mset_s, mset_n, pk_us, pk_un, ne_eq, Nat.reduceEqDiff, Nat.reduceAdd, not_false_eq_true, not_true_eq_false]) <;> rfl) ?_
  refine V_bget dX6_riseAt_4 fX6_74 (by decide) rfl (by (try simp only [mset_s, mset_n, pk_us, pk_un, ne_eq, Nat.reduceEqDiff, Nat.reduceAdd, not_false_eq_true, not_true_eq_false]) <;> rfl) ?_
  refine V_iload_n dX6_riseAt_7 rfl ?_
  refine V_iload_n dX6_riseAt_8 rfl ?_
  refine V_callVw dX6_riseAt_9 kX6_161 ykX3_numberAt (by decide) rfl rfl (tX3_numberAt (q := 4) (W := 12) stk1.sh3 hn hk) rfl (Nat.le_of_ble_eq_true rfl) ⟨by decide, by decide, by decide, by decide⟩ ?_
  refine V_aload_n dX6_riseAt_12 rfl ?_
  refine V_bget dX6_riseAt_13 fX6_12 (by decide) rfl (by (try simp only [mset_s, mset_n, pk_us, pk_un, ne_eq, Nat.reduceEqDiff, Nat.reduceAdd, not_false_eq_true, not_true_eq_false]) <;> rfl) ?_
  refine V_bget dX6_riseAt_16 fX6_74 (by decide) rfl (by (try simp only [mset_s, mset_n, pk_us, pk_un, ne_eq, Nat.reduceEqDiff, Nat.reduceAdd, not_false_eq_true, not_true_eq_false]) <;> rfl) ?_
  refine V_iload_n dX6_riseAt_19 rfl ?_
  refine V_iload_n dX6_riseAt_20 rfl ?_
  refine V_iload_n dX6_riseAt_21 rfl ?_
  refine V_isub dX6_riseAt_22 ?_
  rw [pk_sub hs]
  refine V_callVw dX6_riseAt_23 kX6_161 ykX3_numberAt (by decide) rfl rfl (tX3_numberAt (q := 4) (W := 12) stk1.sh3 hn (by omega)) rfl (Nat.le_of_ble_eq_true rfl) ⟨by decide, by decide, by decide, by decide⟩ ?_
  refine V_isub dX6_riseAt_26 ?_
  refine V_iret dX6_riseAt_27 rfl rfl rfl ?_
  exact Rw_i rfl rfl
/-- from s on below k the try n repeats by s -/
abbrev repC (C : CT) (n s k : Nat) : Prop := ∀ m, m < k → s ≤ m → vT C n m = vT C n (m - s) ∧ (2 * s ≤ m → nT C n m - nT C n (m - s) = nT C n (m - s) - nT C n (m - s - s))
set_option maxHeartbeats 4000000 in
theorem tX6_repeatsBy {n s len : Nat} (hn : n < 6) (hl : C 8 n = nI len) (hlen : len ≤ 12) (hs : 1 ≤ s) (hs2 : s ≤ len) : Ct G l yX6_repeatsBy cX6_repeatsBy 6 (some .boolean) 3 0 0 sz [.ref a, .int (nI n), .int (nI s)] (B G a C) (Rw G a (.int (bI (repC C n s len))) C) := by
  refine Ct.of (own := RX6) (mn := "repeatsBy") (L0 := [some (.ref (a + 0)), some (.int (nI n)), some (.int (nI s)), none, none, none]) (by decide +kernel) rfl rfl rfl (Nat.le_of_ble_eq_true rfl) rfl ?_
  refine V_aload_n dX6_repeatsBy_0 rfl ?_
  refine V_bget dX6_repeatsBy_1 fX6_12 (by decide) rfl (by (try simp only [mset_s, mset_n, pk_us, pk_un, ne_eq, Nat.reduceEqDiff, Nat.reduceAdd, not_false_eq_true, not_true_eq_false]) <;> rfl) ?_
  refine V_bget dX6_repeatsBy_4 fX6_74 (by decide) rfl (by (try simp only [mset_s, mset_n, pk_us, pk_un, ne_eq, Nat.reduceEqDiff, Nat.reduceAdd, not_false_eq_true, not_true_eq_false]) <;> rfl) ?_
  refine V_astore_n dX6_repeatsBy_7 (by decide) (by dsimp only [List.set] <;> rfl) rfl ?_
  refine V_aload_n dX6_repeatsBy_8 rfl ?_
  refine V_iload_n dX6_repeatsBy_9 rfl ?_
  refine V_callVw dX6_repeatsBy_10 kX6_118 ykX3_sizeOf (by decide) rfl rfl (tX3_sizeOf (q := 4) stk1.sh3 hn) rfl (Nat.le_of_ble_eq_true rfl) ⟨by decide, by decide, by decide, by decide⟩ ?_
  rw [hl]
  refine V_istore dX6_repeatsBy_13 (by decide) (by dsimp only [List.set] <;> rfl) rfl ?_
  refine V_iload_n dX6_repeatsBy_15 rfl ?_
  refine V_istore dX6_repeatsBy_16 (by decide) (by dsimp only [List.set] <;> rfl) rfl ?_
  have key : ∀ (m k : Nat), s ≤ k → k + m = len → repC C n s k → V G l RX6 "repeatsBy" cX6_repeatsBy 6 (some .boolean) (rmd 3 0 0) E0 (Qm G (Rw G a (.int (bI (repC C n s len))) C) sz 0 0) sz 0 0 18 [some (.ref (a + 0)), some (.int (nI n)), some (.int (nI s)), some (.ref (a + 4)), some (.int (nI len)), some (.int (nI k))] [] (B G a C) := by
    intro m
    induction m with
    | zero =>
      intro k hsk hk hr
      obtain rfl : k = len := by omega
      refine V_iload dX6_repeatsBy_18 rfl ?_
      refine V_iload dX6_repeatsBy_20 rfl ?_
      refine V_icmp_ge dX6_repeatsBy_22 (fun _ => ?_) (fun z => absurd ((cle (by repeat (first | with_reducible rfl | with_reducible exact nlit | with_reducible apply nadd | with_reducible apply nmul | with_reducible apply nsub | with_reducible assumption | omega)) (by repeat (first | with_reducible rfl | with_reducible exact nlit | with_reducible apply nadd | with_reducible apply nmul | with_reducible apply nsub | with_reducible assumption | omega)) (by omega) (by omega)).mpr (by omega)) z)
      refine V_iconst (v := 1) dX6_repeatsBy_83 (by decide) ?_
      refine V_zret dX6_repeatsBy_84 rfl (by first | rfl | exact bI_nar) rfl rfl ?_
      exact Rw_i (bI_t hr).symm rfl
    | succ m ih =>
      intro k hsk hk hr
      refine V_iload dX6_repeatsBy_18 rfl ?_
      refine V_iload dX6_repeatsBy_20 rfl ?_
      refine V_icmp_ge dX6_repeatsBy_22 (fun z => absurd z (fun z => absurd ((cle (by repeat (first | with_reducible rfl | with_reducible exact nlit | with_reducible apply nadd | with_reducible apply nmul | with_reducible apply nsub | with_reducible assumption | omega)) (by repeat (first | with_reducible rfl | with_reducible exact nlit | with_reducible apply nadd | with_reducible apply nmul | with_reducible apply nsub | with_reducible assumption | omega)) (by omega) (by omega)).mp z) (by omega))) (fun _ => ?_)
      refine V_aload_n dX6_repeatsBy_25 rfl ?_
      refine V_iload_n dX6_repeatsBy_26 rfl ?_
      refine V_iload dX6_repeatsBy_27 rfl ?_
      refine V_callVw dX6_repeatsBy_29 kX6_157 ykX3_verbAt (by decide) rfl rfl (tX3_verbAt (q := 4) (W := 12) stk1.sh3 hn (by omega)) rfl (Nat.le_of_ble_eq_true rfl) ⟨by decide, by decide, by decide, by decide⟩ ?_
      refine V_aload_n dX6_repeatsBy_32 rfl ?_
      refine V_iload_n dX6_repeatsBy_33 rfl ?_
      refine V_iload dX6_repeatsBy_34 rfl ?_
      refine V_iload_n dX6_repeatsBy_36 rfl ?_
      refine V_isub dX6_repeatsBy_37 ?_
      rw [pk_sub hsk]
      refine V_callVw dX6_repeatsBy_38 kX6_157 ykX3_verbAt (by decide) rfl rfl (tX3_verbAt (q := 4) (W := 12) stk1.sh3 hn (by omega)) rfl (Nat.le_of_ble_eq_true rfl) ⟨by decide, by decide, by decide, by decide⟩ ?_
      have ext : (vT C n k = vT C n (k - s) ∧ (2 * s ≤ k → nT C n k - nT C n (k - s) = nT C n (k - s) - nT C n (k - s - s))) → repC C n s (k + 1) := by
        intro q m1 hm1 hm2
        rcases Nat.lt_or_ge m1 k with y | y
        · exact hr m1 y hm2
        · obtain rfl : m1 = k := by omega
          exact q
      refine V_icmp_eq dX6_repeatsBy_41 (fun c41 => ?_) (fun c41 => ?_)
      · refine V_iload dX6_repeatsBy_46 rfl ?_
        refine V_iconst (v := 2) dX6_repeatsBy_48 (by decide) ?_
        refine V_iload_n dX6_repeatsBy_49 rfl ?_
        refine V_imul dX6_repeatsBy_50 ?_
        by_cases h2 : 2 * s ≤ k
        · refine V_icmp_lt dX6_repeatsBy_51 (fun z => absurd z (fun z => absurd ((clt (by repeat (first | with_reducible rfl | with_reducible exact nlit | with_reducible apply nadd | with_reducible apply nmul | with_reducible apply nsub | with_reducible assumption | omega)) (by repeat (first | with_reducible rfl | with_reducible exact nlit | with_reducible apply nadd | with_reducible apply nmul | with_reducible apply nsub | with_reducible assumption | omega)) (by omega) (by omega)).mp z) (by omega))) (fun _ => ?_)
          refine V_aload_n dX6_repeatsBy_54 rfl ?_
          refine V_iload_n dX6_repeatsBy_55 rfl ?_
          refine V_iload dX6_repeatsBy_56 rfl ?_
          refine V_iload_n dX6_repeatsBy_58 rfl ?_
          refine V_callVw dX6_repeatsBy_59 kX6_270 ykX6_riseAt (j := 0) (by decide) rfl rfl (tX6_riseAt (n := n) (k := k) (s := s) hn (by omega) hsk) rfl (Nat.le_of_ble_eq_true rfl) ⟨by decide, by decide, by decide, by decide⟩ ?_
          refine V_aload_n dX6_repeatsBy_62 rfl ?_
          refine V_iload_n dX6_repeatsBy_63 rfl ?_
          refine V_iload dX6_repeatsBy_64 rfl ?_
          refine V_iload_n dX6_repeatsBy_66 rfl ?_
          refine V_isub dX6_repeatsBy_67 ?_
          rw [pk_sub hsk]
          refine V_iload_n dX6_repeatsBy_68 rfl ?_
          refine V_callVw dX6_repeatsBy_69 kX6_270 ykX6_riseAt (j := 0) (by decide) rfl rfl (tX6_riseAt (n := n) (k := k - s) (s := s) hn (by omega) (by omega)) rfl (Nat.le_of_ble_eq_true rfl) ⟨by decide, by decide, by decide, by decide⟩ ?_
          refine V_icmp_eq dX6_repeatsBy_72 (fun c72 => ?_) (fun c72 => ?_)
          · refine V_iinc dX6_repeatsBy_77 rfl (ninc _) (by decide) (by dsimp only [List.set] <;> rfl) ?_
            refine V_goto dX6_repeatsBy_80 ?_
            exact ih (k + 1) (by omega) (by omega) (ext ⟨c41, fun _ => c72⟩)
          · refine V_iconst (v := 0) dX6_repeatsBy_75 (by decide) ?_
            refine V_zret dX6_repeatsBy_76 rfl (by first | rfl | exact bI_nar) rfl rfl ?_
            exact Rw_i (bI_f (fun q => c72 ((q k (by omega) hsk).2 h2))).symm rfl
        · refine V_icmp_lt dX6_repeatsBy_51 (fun _ => ?_) (fun z => absurd ((clt (by repeat (first | with_reducible rfl | with_reducible exact nlit | with_reducible apply nadd | with_reducible apply nmul | with_reducible apply nsub | with_reducible assumption | omega)) (by repeat (first | with_reducible rfl | with_reducible exact nlit | with_reducible apply nadd | with_reducible apply nmul | with_reducible apply nsub | with_reducible assumption | omega)) (by omega) (by omega)).mpr (by omega)) z)
          refine V_iinc dX6_repeatsBy_77 rfl (ninc _) (by decide) (by dsimp only [List.set] <;> rfl) ?_
          refine V_goto dX6_repeatsBy_80 ?_
          exact ih (k + 1) (by omega) (by omega) (ext ⟨c41, fun y => absurd y h2⟩)
      · refine V_iconst (v := 0) dX6_repeatsBy_44 (by decide) ?_
        refine V_zret dX6_repeatsBy_45 rfl (by first | rfl | exact bI_nar) rfl rfl ?_
        exact Rw_i (bI_f (fun q => c41 (q k (by omega) hsk).1)).symm rfl
  exact key (len - s) s (by omega) (by omega) (fun m1 h1 h2 => absurd h1 (by omega))
abbrev okP (C : CT) (n len s : Nat) : Prop := len % s = 0 ∧ 2 * s ≤ len ∧ repC C n s len
/-- the least period of the try n, or 0 -/
def Rlp (G : GT) (a : Nat) (C : CT) (n len : Nat) : Option Value → Hp → Prop := fun r h' => ∃ s, r = some (.int (nI s)) ∧ h' = B G a C ∧ (∀ s', 1 ≤ s' → s' < s → ¬ okP C n len s') ∧ (s = 0 → ∀ s', 1 ≤ s' → ¬ okP C n len s') ∧ (0 < s → okP C n len s)
set_option maxHeartbeats 4000000 in
theorem tX6_leastPeriod {n len : Nat} (hn : n < 6) (hl : C 8 n = nI len) (hlen : len ≤ 12) : Ct G l yX6_leastPeriod cX6_leastPeriod 4 (some .int) 4 0 0 sz [.ref a, .int (nI n)] (B G a C) (Rlp G a C n len) := by
  refine Ct.of (own := RX6) (mn := "leastPeriod") (L0 := [some (.ref (a + 0)), some (.int (nI n)), none, none]) (by decide +kernel) rfl rfl rfl (Nat.le_of_ble_eq_true rfl) rfl ?_
  refine V_aload_n dX6_leastPeriod_0 rfl ?_
  refine V_bget dX6_leastPeriod_1 fX6_12 (by decide) rfl (by (try simp only [mset_s, mset_n, pk_us, pk_un, ne_eq, Nat.reduceEqDiff, Nat.reduceAdd, not_false_eq_true, not_true_eq_false]) <;> rfl) ?_
  refine V_bget dX6_leastPeriod_4 fX6_74 (by decide) rfl (by (try simp only [mset_s, mset_n, pk_us, pk_un, ne_eq, Nat.reduceEqDiff, Nat.reduceAdd, not_false_eq_true, not_true_eq_false]) <;> rfl) ?_
  refine V_iload_n dX6_leastPeriod_7 rfl ?_
  refine V_callVw dX6_leastPeriod_8 kX6_118 ykX3_sizeOf (by decide) rfl rfl (tX3_sizeOf (q := 4) stk1.sh3 hn) rfl (Nat.le_of_ble_eq_true rfl) ⟨by decide, by decide, by decide, by decide⟩ ?_
  rw [hl]
  refine V_istore_n dX6_leastPeriod_11 (by decide) (by dsimp only [List.set] <;> rfl) rfl ?_
  refine V_iconst (v := 1) dX6_leastPeriod_12 (by decide) ?_
  refine V_istore_n dX6_leastPeriod_13 (by decide) (by dsimp only [List.set] <;> rfl) rfl ?_
  have key : ∀ (m s : Nat), 1 ≤ s → s + m = 13 → (∀ s', 1 ≤ s' → s' < s → ¬ okP C n len s') → V G l RX6 "leastPeriod" cX6_leastPeriod 4 (some .int) (rmd 4 0 0) E0 (Qm G (Rlp G a C n len) sz 0 0) sz 0 0 14 [some (.ref (a + 0)), some (.int (nI n)), some (.int (nI len)), some (.int (nI s))] [] (B G a C) := by
    intro m
    induction m with
    | zero =>
      intro s hs hk hr
      refine V_iconst (v := 2) dX6_leastPeriod_14 (by decide) ?_
      refine V_iload_n dX6_leastPeriod_15 rfl ?_
      refine V_imul dX6_leastPeriod_16 ?_
      refine V_iload_n dX6_leastPeriod_17 rfl ?_
      refine V_icmp_gt dX6_leastPeriod_18 (fun _ => ?_) (fun z => absurd ((clt (by repeat (first | with_reducible rfl | with_reducible exact nlit | with_reducible apply nadd | with_reducible apply nmul | with_reducible apply nsub | with_reducible assumption | omega)) (by repeat (first | with_reducible rfl | with_reducible exact nlit | with_reducible apply nadd | with_reducible apply nmul | with_reducible apply nsub | with_reducible assumption | omega)) (by omega) (by omega)).mpr (by omega)) z)
      refine V_iconst (v := 0) dX6_leastPeriod_44 (by decide) ?_
      refine V_iret dX6_leastPeriod_45 rfl rfl rfl ?_
      exact ⟨0, rfl, rfl, fun s' h1 h2 => absurd h2 (by omega), fun _ s' h1 => by
        rcases Nat.lt_or_ge s' s with y | y
        · exact hr s' h1 y
        · exact fun q => by have := q.2.1; omega, fun h => absurd h (by omega)⟩
    | succ m ih =>
      intro s hs hk hr
      have more : ¬ okP C n len s → ∀ s', 1 ≤ s' → s' < s + 1 → ¬ okP C n len s' := fun q s' h1 h2 => by
        rcases Nat.lt_or_ge s' s with y | y
        · exact hr s' h1 y
        · obtain rfl : s' = s := by omega
          exact q
      by_cases h2 : 2 * s ≤ len
      · refine V_iconst (v := 2) dX6_leastPeriod_14 (by decide) ?_
        refine V_iload_n dX6_leastPeriod_15 rfl ?_
        refine V_imul dX6_leastPeriod_16 ?_
        refine V_iload_n dX6_leastPeriod_17 rfl ?_
        refine V_icmp_gt dX6_leastPeriod_18 (fun z => absurd z (fun z => absurd ((clt (by repeat (first | with_reducible rfl | with_reducible exact nlit | with_reducible apply nadd | with_reducible apply nmul | with_reducible apply nsub | with_reducible assumption | omega)) (by repeat (first | with_reducible rfl | with_reducible exact nlit | with_reducible apply nadd | with_reducible apply nmul | with_reducible apply nsub | with_reducible assumption | omega)) (by omega) (by omega)).mp z) (by omega))) (fun _ => ?_)
        refine V_iload_n dX6_leastPeriod_21 rfl ?_
        refine V_iload_n dX6_leastPeriod_22 rfl ?_
        refine V_irem dX6_leastPeriod_23 (by intro z; exact absurd ((ceq rfl nlit (by omega) (by omega)).mp z) (by omega)) ?_
        rw [pk_rem (by omega) (by omega) (by omega)]
        by_cases h1 : len % s = 0
        · refine V_if_ne dX6_leastPeriod_24 (fun z => absurd z (fun z => z (by rw [h1]; rfl))) (fun _ => ?_)
          refine V_aload_n dX6_leastPeriod_27 rfl ?_
          refine V_iload_n dX6_leastPeriod_28 rfl ?_
          refine V_iload_n dX6_leastPeriod_29 rfl ?_
          refine V_callVw dX6_leastPeriod_30 kX6_267 ykX6_repeatsBy (j := 0) (by decide) rfl rfl (tX6_repeatsBy (n := n) (s := s) (len := len) hn hl hlen hs (by omega)) rfl (Nat.le_of_ble_eq_true rfl) ⟨by decide, by decide, by decide, by decide⟩ ?_
          by_cases hq : repC C n s len
          · refine V_if_eq dX6_leastPeriod_33 (fun z => absurd z (bI_ne0.mpr hq)) (fun _ => ?_)
            refine V_iload_n dX6_leastPeriod_36 rfl ?_
            refine V_iret dX6_leastPeriod_37 rfl rfl rfl ?_
            exact ⟨s, rfl, rfl, hr, fun h => absurd h (by omega), fun _ => ⟨h1, h2, hq⟩⟩
          · refine V_if_eq dX6_leastPeriod_33 (fun _ => ?_) (fun z => absurd (bI_f hq) z)
            refine V_iinc dX6_leastPeriod_38 rfl (ninc _) (by decide) (by dsimp only [List.set] <;> rfl) ?_
            refine V_goto dX6_leastPeriod_41 ?_
            exact ih (s + 1) (by omega) (by omega) (more (fun q => hq q.2.2))
        · refine V_if_ne dX6_leastPeriod_24 (fun _ => ?_) (fun z => absurd z ((by intro z; exact h1 ((ceq rfl nlit (by have := Nat.mod_le len s; omega) (by omega)).mp z))))
          refine V_iinc dX6_leastPeriod_38 rfl (ninc _) (by decide) (by dsimp only [List.set] <;> rfl) ?_
          refine V_goto dX6_leastPeriod_41 ?_
          exact ih (s + 1) (by omega) (by omega) (more (fun q => h1 q.1))
      · refine V_iconst (v := 2) dX6_leastPeriod_14 (by decide) ?_
        refine V_iload_n dX6_leastPeriod_15 rfl ?_
        refine V_imul dX6_leastPeriod_16 ?_
        refine V_iload_n dX6_leastPeriod_17 rfl ?_
        refine V_icmp_gt dX6_leastPeriod_18 (fun _ => ?_) (fun z => absurd ((clt (by repeat (first | with_reducible rfl | with_reducible exact nlit | with_reducible apply nadd | with_reducible apply nmul | with_reducible apply nsub | with_reducible assumption | omega)) (by repeat (first | with_reducible rfl | with_reducible exact nlit | with_reducible apply nadd | with_reducible apply nmul | with_reducible apply nsub | with_reducible assumption | omega)) (by omega) (by omega)).mpr (by omega)) z)
        refine V_iconst (v := 0) dX6_leastPeriod_44 (by decide) ?_
        refine V_iret dX6_leastPeriod_45 rfl rfl rfl ?_
        exact ⟨0, rfl, rfl, fun s' h1 h3 => absurd h3 (by omega), fun _ s' h1 => by
          rcases Nat.lt_or_ge s' s with y | y
          · exact hr s' h1 y
          · exact fun q => by have := q.2.1; omega, fun h => absurd h (by omega)⟩
  exact key 12 1 (by omega) (by omega) (fun s' h1 h2 => absurd h2 (by omega))
end CLS
section CLS
variable {G : GT} {l : Launch} {sz a : Nat} {C : CT}
theorem mlC_cg {C C1 : CT} {lc i j off size : Nat} {t : Int32} (h : ∀ q, q < 16 → C1 q = C q) : ∀ q, q < 16 → mlC C1 lc i j off size t q = mlC C lc i j off size t q := by
  intro q hq
  unfold mlC mkC vT nT
  simp only [h 5 (by decide), h 6 (by decide), h 10 (by decide), h 11 (by decide), h 12 (by decide), h 13 (by decide), h 14 (by decide), h 15 (by decide)]
  unfold mset
  split
  · rfl
  split
  · rfl
  split
  · rfl
  split
  · rfl
  split
  · rfl
  split
  · rfl
  exact h q hq
theorem tX6_generalise_o {tc : Nat} (x1 x2 : Int32) (h4 : C 4 0 = nI tc) (htc : tc ≤ 6) (hx : ¬ (isIx x1 tc ∧ isIx x2 tc)) : Ct G l yX6_generalise cX6_generalise 3 (some .int) 5 0 0 sz [.ref a, .int x1, .int x2] (B G a C) (Rw G a (.int (-1)) C) := by
  refine Ct.of (own := RX6) (mn := "generalise") (L0 := [some (.ref (a + 0)), some (.int x1), some (.int x2)]) (by decide +kernel) rfl rfl rfl (Nat.le_of_ble_eq_true rfl) rfl ?_
  refine V_aload_n dX6_generalise_0 rfl ?_
  refine V_bget dX6_generalise_1 fX6_12 (by decide) rfl (by (try simp only [mset_s, mset_n, pk_us, pk_un, ne_eq, Nat.reduceEqDiff, Nat.reduceAdd, not_false_eq_true, not_true_eq_false]) <;> rfl) ?_
  refine V_bget dX6_generalise_4 fX6_74 (by decide) rfl (by (try simp only [mset_s, mset_n, pk_us, pk_un, ne_eq, Nat.reduceEqDiff, Nat.reduceAdd, not_false_eq_true, not_true_eq_false]) <;> rfl) ?_
  refine V_iload_n dX6_generalise_7 rfl ?_
  refine V_callVw dX6_generalise_8 kX6_105 ykX3_holds (by decide) rfl rfl (tX3_holds (q := 4) (cnt := tc) stk1.sh3 h4 (by omega)) rfl (Nat.le_of_ble_eq_true rfl) ⟨by decide, by decide, by decide, by decide⟩ ?_
  by_cases h1 : isIx x1 tc
  · refine V_if_eq dX6_generalise_11 (fun z => absurd z (bI_ne0.mpr h1)) (fun _ => ?_)
    refine V_aload_n dX6_generalise_14 rfl ?_
    refine V_bget dX6_generalise_15 fX6_12 (by decide) rfl (by (try simp only [mset_s, mset_n, pk_us, pk_un, ne_eq, Nat.reduceEqDiff, Nat.reduceAdd, not_false_eq_true, not_true_eq_false]) <;> rfl) ?_
    refine V_bget dX6_generalise_18 fX6_74 (by decide) rfl (by (try simp only [mset_s, mset_n, pk_us, pk_un, ne_eq, Nat.reduceEqDiff, Nat.reduceAdd, not_false_eq_true, not_true_eq_false]) <;> rfl) ?_
    refine V_iload_n dX6_generalise_21 rfl ?_
    refine V_callVw dX6_generalise_22 kX6_105 ykX3_holds (by decide) rfl rfl (tX3_holds (q := 4) (cnt := tc) stk1.sh3 h4 (by omega)) rfl (Nat.le_of_ble_eq_true rfl) ⟨by decide, by decide, by decide, by decide⟩ ?_
    refine V_if_ne dX6_generalise_25 (fun z => absurd z (fun z => z (bI_f (fun w => hx ⟨h1, w⟩)))) (fun _ => ?_)
    refine V_iconst (v := (-1)) dX6_generalise_28 (by decide) ?_
    refine V_iret dX6_generalise_29 rfl rfl rfl ?_
    exact Rw_i rfl rfl
  · refine V_if_eq dX6_generalise_11 (fun _ => ?_) (fun z => absurd (bI_f h1) z)
    refine V_iconst (v := (-1)) dX6_generalise_28 (by decide) ?_
    refine V_iret dX6_generalise_29 rfl rfl rfl ?_
    exact Rw_i rfl rfl
abbrev likC (C : CT) (i j si sj : Nat) : Prop := si = sj ∧ ∀ k, k < si → C (4 + 1) (i * 12 + k) = C (4 + 1) (j * 12 + k)
theorem tX6_generalise_n {tc i j si sj : Nat} (h4 : C 4 0 = nI tc) (htc : tc ≤ 6) (hi : i < tc) (hj : j < tc) (hsi : C 8 i = nI si) (hsj : C 8 j = nI sj) (h1 : si ≤ 12) (h2 : sj ≤ 12) (hn : ¬ (i ≠ j ∧ likC C i j si sj)) : Ct G l yX6_generalise cX6_generalise 3 (some .int) 5 0 0 sz [.ref a, .int (nI i), .int (nI j)] (B G a C) (Rw G a (.int (-4)) C) := by
  refine Ct.of (own := RX6) (mn := "generalise") (L0 := [some (.ref (a + 0)), some (.int (nI i)), some (.int (nI j))]) (by decide +kernel) rfl rfl rfl (Nat.le_of_ble_eq_true rfl) rfl ?_
  refine V_aload_n dX6_generalise_0 rfl ?_
  refine V_bget dX6_generalise_1 fX6_12 (by decide) rfl (by (try simp only [mset_s, mset_n, pk_us, pk_un, ne_eq, Nat.reduceEqDiff, Nat.reduceAdd, not_false_eq_true, not_true_eq_false]) <;> rfl) ?_
  refine V_bget dX6_generalise_4 fX6_74 (by decide) rfl (by (try simp only [mset_s, mset_n, pk_us, pk_un, ne_eq, Nat.reduceEqDiff, Nat.reduceAdd, not_false_eq_true, not_true_eq_false]) <;> rfl) ?_
  refine V_iload_n dX6_generalise_7 rfl ?_
  refine V_callVw dX6_generalise_8 kX6_105 ykX3_holds (by decide) rfl rfl (tX3_holds (q := 4) (cnt := tc) stk1.sh3 h4 (by omega)) rfl (Nat.le_of_ble_eq_true rfl) ⟨by decide, by decide, by decide, by decide⟩ ?_
  refine V_if_eq dX6_generalise_11 (fun z => absurd z (bI_ne0.mpr (isIx_nI hi (by omega)))) (fun _ => ?_)
  refine V_aload_n dX6_generalise_14 rfl ?_
  refine V_bget dX6_generalise_15 fX6_12 (by decide) rfl (by (try simp only [mset_s, mset_n, pk_us, pk_un, ne_eq, Nat.reduceEqDiff, Nat.reduceAdd, not_false_eq_true, not_true_eq_false]) <;> rfl) ?_
  refine V_bget dX6_generalise_18 fX6_74 (by decide) rfl (by (try simp only [mset_s, mset_n, pk_us, pk_un, ne_eq, Nat.reduceEqDiff, Nat.reduceAdd, not_false_eq_true, not_true_eq_false]) <;> rfl) ?_
  refine V_iload_n dX6_generalise_21 rfl ?_
  refine V_callVw dX6_generalise_22 kX6_105 ykX3_holds (by decide) rfl rfl (tX3_holds (q := 4) (cnt := tc) stk1.sh3 h4 (by omega)) rfl (Nat.le_of_ble_eq_true rfl) ⟨by decide, by decide, by decide, by decide⟩ ?_
  refine V_if_ne dX6_generalise_25 (fun _ => ?_) (fun z => absurd z ((bI_ne0.mpr (isIx_nI hj (by omega)))))
  refine V_aload_n dX6_generalise_30 rfl ?_
  refine V_iload_n dX6_generalise_31 rfl ?_
  refine V_iload_n dX6_generalise_32 rfl ?_
  refine V_callVw dX6_generalise_33 kX6_112 ykX6_canGeneralise (j := 0) (by decide) rfl rfl (tX6_canGeneralise (i := i) (j := j) (si := si) (sj := sj) (by omega) (by omega) hsi hsj h1 h2) rfl (Nat.le_of_ble_eq_true rfl) ⟨by decide, by decide, by decide, by decide⟩ ?_
  refine V_if_ne dX6_generalise_36 (fun z => absurd z (fun z => z (bI_f hn))) (fun _ => ?_)
  refine V_bipush (v := (-4)) dX6_generalise_39 (by decide) ?_
  refine V_iret dX6_generalise_41 rfl rfl rfl ?_
  exact Rw_i rfl rfl
theorem tX6_generalise_f {tc i j si sj : Nat} (h4 : C 4 0 = nI tc) (htc : tc ≤ 6) (hi : i < tc) (hj : j < tc) (hsi : C 8 i = nI si) (hsj : C 8 j = nI sj) (h1 : si ≤ 12) (h2 : sj ≤ 12) (hn : i ≠ j ∧ likC C i j si sj) (h10 : C 10 0 = 6) : Ct G l yX6_generalise cX6_generalise 3 (some .int) 5 0 0 sz [.ref a, .int (nI i), .int (nI j)] (B G a C) (Rw G a (.int (-3)) C) := by
  refine Ct.of (own := RX6) (mn := "generalise") (L0 := [some (.ref (a + 0)), some (.int (nI i)), some (.int (nI j))]) (by decide +kernel) rfl rfl rfl (Nat.le_of_ble_eq_true rfl) rfl ?_
  refine V_aload_n dX6_generalise_0 rfl ?_
  refine V_bget dX6_generalise_1 fX6_12 (by decide) rfl (by (try simp only [mset_s, mset_n, pk_us, pk_un, ne_eq, Nat.reduceEqDiff, Nat.reduceAdd, not_false_eq_true, not_true_eq_false]) <;> rfl) ?_
  refine V_bget dX6_generalise_4 fX6_74 (by decide) rfl (by (try simp only [mset_s, mset_n, pk_us, pk_un, ne_eq, Nat.reduceEqDiff, Nat.reduceAdd, not_false_eq_true, not_true_eq_false]) <;> rfl) ?_
  refine V_iload_n dX6_generalise_7 rfl ?_
  refine V_callVw dX6_generalise_8 kX6_105 ykX3_holds (by decide) rfl rfl (tX3_holds (q := 4) (cnt := tc) stk1.sh3 h4 (by omega)) rfl (Nat.le_of_ble_eq_true rfl) ⟨by decide, by decide, by decide, by decide⟩ ?_
  refine V_if_eq dX6_generalise_11 (fun z => absurd z (bI_ne0.mpr (isIx_nI hi (by omega)))) (fun _ => ?_)
  refine V_aload_n dX6_generalise_14 rfl ?_
  refine V_bget dX6_generalise_15 fX6_12 (by decide) rfl (by (try simp only [mset_s, mset_n, pk_us, pk_un, ne_eq, Nat.reduceEqDiff, Nat.reduceAdd, not_false_eq_true, not_true_eq_false]) <;> rfl) ?_
  refine V_bget dX6_generalise_18 fX6_74 (by decide) rfl (by (try simp only [mset_s, mset_n, pk_us, pk_un, ne_eq, Nat.reduceEqDiff, Nat.reduceAdd, not_false_eq_true, not_true_eq_false]) <;> rfl) ?_
  refine V_iload_n dX6_generalise_21 rfl ?_
  refine V_callVw dX6_generalise_22 kX6_105 ykX3_holds (by decide) rfl rfl (tX3_holds (q := 4) (cnt := tc) stk1.sh3 h4 (by omega)) rfl (Nat.le_of_ble_eq_true rfl) ⟨by decide, by decide, by decide, by decide⟩ ?_
  refine V_if_ne dX6_generalise_25 (fun _ => ?_) (fun z => absurd z ((bI_ne0.mpr (isIx_nI hj (by omega)))))
  refine V_aload_n dX6_generalise_30 rfl ?_
  refine V_iload_n dX6_generalise_31 rfl ?_
  refine V_iload_n dX6_generalise_32 rfl ?_
  refine V_callVw dX6_generalise_33 kX6_112 ykX6_canGeneralise (j := 0) (by decide) rfl rfl (tX6_canGeneralise (i := i) (j := j) (si := si) (sj := sj) (by omega) (by omega) hsi hsj h1 h2) rfl (Nat.le_of_ble_eq_true rfl) ⟨by decide, by decide, by decide, by decide⟩ ?_
  refine V_if_ne dX6_generalise_36 (fun _ => ?_) (fun z => absurd z ((bI_ne0.mpr hn)))
  refine V_aload_n dX6_generalise_42 rfl ?_
  refine V_bget dX6_generalise_43 fX6_12 (by decide) rfl (by (try simp only [mset_s, mset_n, pk_us, pk_un, ne_eq, Nat.reduceEqDiff, Nat.reduceAdd, not_false_eq_true, not_true_eq_false]) <;> rfl) ?_
  refine V_bget dX6_generalise_46 fX6_115 (by decide) rfl (by (try simp only [mset_s, mset_n, pk_us, pk_un, ne_eq, Nat.reduceEqDiff, Nat.reduceAdd, not_false_eq_true, not_true_eq_false]) <;> rfl) ?_
  refine V_callVw dX6_generalise_49 kX6_94 ykX3_isFull (by decide) rfl rfl (tX3_isFull (q := 10) (cnt := 6) stk1.sh9 h10 (by decide)) rfl (Nat.le_of_ble_eq_true rfl) ⟨by decide, by decide, by decide, by decide⟩ ?_
  refine V_if_eq dX6_generalise_52 (fun z => absurd z (by decide)) (fun _ => ?_)
  refine V_bipush (v := (-3)) dX6_generalise_55 (by decide) ?_
  refine V_iret dX6_generalise_57 rfl rfl rfl ?_
  exact Rw_i rfl rfl
set_option maxHeartbeats 4000000 in
theorem tX6_generalise {tc lc st i j si sj : Nat} (h4 : C 4 0 = nI tc) (htc : tc ≤ 6) (hi : i < tc) (hj : j < tc) (hsi : C 8 i = nI si) (hsj : C 8 j = nI sj) (h1 : si ≤ 12) (h2 : sj ≤ 12) (hn : i ≠ j ∧ likC C i j si sj) (h10 : C 10 0 = nI lc) (hlc : lc < 6) (hHi : HiK C) (hst : st ≤ 4) (h16 : C 16 0 = nI st) (hop : C 1 0 = 0 ∨ C 1 0 = 1) : Ct G l yX6_generalise cX6_generalise 3 (some .int) 5 0 0 sz [.ref a, .int (nI i), .int (nI j)] (B G a C) (Rp G a (.int (nI lc)) C st (fun C1 => mlC C1 lc i j 0 si 2)) := by
  refine Ct.of (own := RX6) (mn := "generalise") (L0 := [some (.ref (a + 0)), some (.int (nI i)), some (.int (nI j))]) (by decide +kernel) rfl rfl rfl (Nat.le_of_ble_eq_true rfl) rfl ?_
  refine V_aload_n dX6_generalise_0 rfl ?_
  refine V_bget dX6_generalise_1 fX6_12 (by decide) rfl (by (try simp only [mset_s, mset_n, pk_us, pk_un, ne_eq, Nat.reduceEqDiff, Nat.reduceAdd, not_false_eq_true, not_true_eq_false]) <;> rfl) ?_
  refine V_bget dX6_generalise_4 fX6_74 (by decide) rfl (by (try simp only [mset_s, mset_n, pk_us, pk_un, ne_eq, Nat.reduceEqDiff, Nat.reduceAdd, not_false_eq_true, not_true_eq_false]) <;> rfl) ?_
  refine V_iload_n dX6_generalise_7 rfl ?_
  refine V_callVw dX6_generalise_8 kX6_105 ykX3_holds (by decide) rfl rfl (tX3_holds (q := 4) (cnt := tc) stk1.sh3 h4 (by omega)) rfl (Nat.le_of_ble_eq_true rfl) ⟨by decide, by decide, by decide, by decide⟩ ?_
  refine V_if_eq dX6_generalise_11 (fun z => absurd z (bI_ne0.mpr (isIx_nI hi (by omega)))) (fun _ => ?_)
  refine V_aload_n dX6_generalise_14 rfl ?_
  refine V_bget dX6_generalise_15 fX6_12 (by decide) rfl (by (try simp only [mset_s, mset_n, pk_us, pk_un, ne_eq, Nat.reduceEqDiff, Nat.reduceAdd, not_false_eq_true, not_true_eq_false]) <;> rfl) ?_
  refine V_bget dX6_generalise_18 fX6_74 (by decide) rfl (by (try simp only [mset_s, mset_n, pk_us, pk_un, ne_eq, Nat.reduceEqDiff, Nat.reduceAdd, not_false_eq_true, not_true_eq_false]) <;> rfl) ?_
  refine V_iload_n dX6_generalise_21 rfl ?_
  refine V_callVw dX6_generalise_22 kX6_105 ykX3_holds (by decide) rfl rfl (tX3_holds (q := 4) (cnt := tc) stk1.sh3 h4 (by omega)) rfl (Nat.le_of_ble_eq_true rfl) ⟨by decide, by decide, by decide, by decide⟩ ?_
  refine V_if_ne dX6_generalise_25 (fun _ => ?_) (fun z => absurd z ((bI_ne0.mpr (isIx_nI hj (by omega)))))
  refine V_aload_n dX6_generalise_30 rfl ?_
  refine V_iload_n dX6_generalise_31 rfl ?_
  refine V_iload_n dX6_generalise_32 rfl ?_
  refine V_callVw dX6_generalise_33 kX6_112 ykX6_canGeneralise (j := 0) (by decide) rfl rfl (tX6_canGeneralise (i := i) (j := j) (si := si) (sj := sj) (by omega) (by omega) hsi hsj h1 h2) rfl (Nat.le_of_ble_eq_true rfl) ⟨by decide, by decide, by decide, by decide⟩ ?_
  refine V_if_ne dX6_generalise_36 (fun _ => ?_) (fun z => absurd z ((bI_ne0.mpr hn)))
  refine V_aload_n dX6_generalise_42 rfl ?_
  refine V_bget dX6_generalise_43 fX6_12 (by decide) rfl (by (try simp only [mset_s, mset_n, pk_us, pk_un, ne_eq, Nat.reduceEqDiff, Nat.reduceAdd, not_false_eq_true, not_true_eq_false]) <;> rfl) ?_
  refine V_bget dX6_generalise_46 fX6_115 (by decide) rfl (by (try simp only [mset_s, mset_n, pk_us, pk_un, ne_eq, Nat.reduceEqDiff, Nat.reduceAdd, not_false_eq_true, not_true_eq_false]) <;> rfl) ?_
  refine V_callVw dX6_generalise_49 kX6_94 ykX3_isFull (by decide) rfl rfl (tX3_isFull (q := 10) (cnt := lc) stk1.sh9 h10 (by omega)) rfl (Nat.le_of_ble_eq_true rfl) ⟨by decide, by decide, by decide, by decide⟩ ?_
  refine V_if_eq dX6_generalise_52 (fun _ => ?_) (fun z => absurd (bI_f (by omega)) z)
  refine V_aload_n dX6_generalise_58 rfl ?_
  refine V_bget dX6_generalise_59 fX6_19 (by decide) rfl (by (try simp only [mset_s, mset_n, pk_us, pk_un, ne_eq, Nat.reduceEqDiff, Nat.reduceAdd, not_false_eq_true, not_true_eq_false]) <;> rfl) ?_
  refine V_aload_n dX6_generalise_62 rfl ?_
  refine V_bget dX6_generalise_63 fX6_12 (by decide) rfl (by (try simp only [mset_s, mset_n, pk_us, pk_un, ne_eq, Nat.reduceEqDiff, Nat.reduceAdd, not_false_eq_true, not_true_eq_false]) <;> rfl) ?_
  refine V_callV dX6_generalise_66 kX6_67 ykX0_push (B_at (by decide) rfl) rfl (tX0_push hHi h16 hst hop) rfl (Nat.le_of_ble_eq_true rfl) ⟨by decide, by decide, by decide, by decide⟩ ?_
  intro r h' hq
  obtain ⟨C1, rfl, rfl, hP⟩ := hq
  have hP1 := hP.1
  have c : ∀ i, i < 16 → C1 i = C i := fun i h => hP1 i (Or.inl h)
  show V G l RX6 "generalise" cX6_generalise 3 (some .int) (rmd 5 0 0) E0 (Qm G (Rp G a (.int (nI lc)) C st (fun C1 => mlC C1 lc i j 0 si 2)) sz 0 0) sz 0 0 69 [some (.ref (a + 0)), some (.int (nI i)), some (.int (nI j))] [] (B G a C1)
  refine V_aload_n dX6_generalise_69 rfl ?_
  refine V_iload_n dX6_generalise_70 rfl ?_
  refine V_iload_n dX6_generalise_71 rfl ?_
  refine V_iconst (v := 0) dX6_generalise_72 (by decide) ?_
  refine V_aload_n dX6_generalise_73 rfl ?_
  refine V_bget dX6_generalise_74 fX6_12 (by decide) rfl (by (try simp only [mset_s, mset_n, pk_us, pk_un, ne_eq, Nat.reduceEqDiff, Nat.reduceAdd, not_false_eq_true, not_true_eq_false]) <;> rfl) ?_
  refine V_bget dX6_generalise_77 fX6_74 (by decide) rfl (by (try simp only [mset_s, mset_n, pk_us, pk_un, ne_eq, Nat.reduceEqDiff, Nat.reduceAdd, not_false_eq_true, not_true_eq_false]) <;> rfl) ?_
  refine V_iload_n dX6_generalise_80 rfl ?_
  refine V_callVw dX6_generalise_81 kX6_118 ykX3_sizeOf (by decide) rfl rfl (tX3_sizeOf (q := 4) stk1.sh3 (by omega)) rfl (Nat.le_of_ble_eq_true rfl) ⟨by decide, by decide, by decide, by decide⟩ ?_
  rw [c (4 + 4) (by decide), show C (4 + 4) i = nI si from hsi]
  refine V_iconst (v := 2) dX6_generalise_84 (by decide) ?_
  refine V_callVw dX6_generalise_85 kX6_121 ykX6_makeLoop (j := 0) (by decide) rfl rfl (tX6_makeLoop (lc := lc) (i := i) (j := j) (off := 0) (size := si) (t := 2) (by rw [c 10 (by decide)]; exact h10) hlc (by omega) (by omega) (by omega)) rfl (Nat.le_of_ble_eq_true rfl) ⟨by decide, by decide, by decide, by decide⟩ ?_
  refine V_iret dX6_generalise_88 rfl rfl rfl ?_
  exact Rp_i rfl rfl hP
theorem tX6_fold_o {tc : Nat} (x1 : Int32) (h4 : C 4 0 = nI tc) (htc : tc ≤ 6) (hx : ¬ isIx x1 tc) : Ct G l yX6_fold cX6_fold 3 (some .int) 5 0 0 sz [.ref a, .int x1] (B G a C) (Rw G a (.int (-1)) C) := by
  refine Ct.of (own := RX6) (mn := "fold") (L0 := [some (.ref (a + 0)), some (.int x1), none]) (by decide +kernel) rfl rfl rfl (Nat.le_of_ble_eq_true rfl) rfl ?_
  refine V_aload_n dX6_fold_0 rfl ?_
  refine V_bget dX6_fold_1 fX6_12 (by decide) rfl (by (try simp only [mset_s, mset_n, pk_us, pk_un, ne_eq, Nat.reduceEqDiff, Nat.reduceAdd, not_false_eq_true, not_true_eq_false]) <;> rfl) ?_
  refine V_bget dX6_fold_4 fX6_74 (by decide) rfl (by (try simp only [mset_s, mset_n, pk_us, pk_un, ne_eq, Nat.reduceEqDiff, Nat.reduceAdd, not_false_eq_true, not_true_eq_false]) <;> rfl) ?_
  refine V_iload_n dX6_fold_7 rfl ?_
  refine V_callVw dX6_fold_8 kX6_105 ykX3_holds (by decide) rfl rfl (tX3_holds (q := 4) (cnt := tc) stk1.sh3 h4 (by omega)) rfl (Nat.le_of_ble_eq_true rfl) ⟨by decide, by decide, by decide, by decide⟩ ?_
  refine V_if_ne dX6_fold_11 (fun z => absurd z (fun z => z (bI_f hx))) (fun _ => ?_)
  refine V_iconst (v := (-1)) dX6_fold_14 (by decide) ?_
  refine V_iret dX6_fold_15 rfl rfl rfl ?_
  exact Rw_i rfl rfl
/-- folding the try n: no period, no place, or the loop made -/
def Rfo (G : GT) (a : Nat) (C : CT) (st lc n len : Nat) : Option Value → Hp → Prop := fun r h' => ∃ s, (∀ s', 1 ≤ s' → s' < s → ¬ okP C n len s') ∧ (s = 0 → ∀ s', 1 ≤ s' → ¬ okP C n len s') ∧ (0 < s → okP C n len s) ∧
  (if s = 0 then Rw G a (.int (-4)) C r h' else if lc = 6 then Rw G a (.int (-3)) C r h' else Rp G a (.int (nI lc)) C st (fun C1 => mlC C1 lc n n s s (nI (len / s))) r h')
set_option maxHeartbeats 4000000 in
theorem tX6_fold {tc lc st n len : Nat} (h4 : C 4 0 = nI tc) (htc : tc ≤ 6) (hn : n < tc) (hl : C 8 n = nI len) (hlen : len ≤ 12) (h10 : C 10 0 = nI lc) (hlc : lc ≤ 6) (hHi : HiK C) (hst : st ≤ 4) (h16 : C 16 0 = nI st) (hop : C 1 0 = 0 ∨ C 1 0 = 1) : Ct G l yX6_fold cX6_fold 3 (some .int) 5 0 0 sz [.ref a, .int (nI n)] (B G a C) (Rfo G a C st lc n len) := by
  refine Ct.of (own := RX6) (mn := "fold") (L0 := [some (.ref (a + 0)), some (.int (nI n)), none]) (by decide +kernel) rfl rfl rfl (Nat.le_of_ble_eq_true rfl) rfl ?_
  refine V_aload_n dX6_fold_0 rfl ?_
  refine V_bget dX6_fold_1 fX6_12 (by decide) rfl (by (try simp only [mset_s, mset_n, pk_us, pk_un, ne_eq, Nat.reduceEqDiff, Nat.reduceAdd, not_false_eq_true, not_true_eq_false]) <;> rfl) ?_
  refine V_bget dX6_fold_4 fX6_74 (by decide) rfl (by (try simp only [mset_s, mset_n, pk_us, pk_un, ne_eq, Nat.reduceEqDiff, Nat.reduceAdd, not_false_eq_true, not_true_eq_false]) <;> rfl) ?_
  refine V_iload_n dX6_fold_7 rfl ?_
  refine V_callVw dX6_fold_8 kX6_105 ykX3_holds (by decide) rfl rfl (tX3_holds (q := 4) (cnt := tc) stk1.sh3 h4 (by omega)) rfl (Nat.le_of_ble_eq_true rfl) ⟨by decide, by decide, by decide, by decide⟩ ?_
  refine V_if_ne dX6_fold_11 (fun _ => ?_) (fun z => absurd z ((bI_ne0.mpr (isIx_nI hn (by omega)))))
  refine V_aload_n dX6_fold_16 rfl ?_
  refine V_iload_n dX6_fold_17 rfl ?_
  refine V_callV dX6_fold_18 kX6_125 ykX6_leastPeriod (B_at (j := 0) (by decide) rfl) rfl (tX6_leastPeriod (n := n) (len := len) (by omega) hl hlen) rfl (Nat.le_of_ble_eq_true rfl) ⟨by decide, by decide, by decide, by decide⟩ ?_
  intro r h' hq
  obtain ⟨s, rfl, rfl, q1, q2, q3⟩ := hq
  have hs12 : s ≤ 12 := by
    rcases Nat.eq_zero_or_pos s with y | y
    · omega
    · have := (q3 y).2.1; omega
  have fin : ∀ r h', (if s = 0 then Rw G a (.int (-4)) C r h' else if lc = 6 then Rw G a (.int (-3)) C r h' else Rp G a (.int (nI lc)) C st (fun C1 => mlC C1 lc n n s s (nI (len / s))) r h') → Rfo G a C st lc n len r h' := fun r h' h => ⟨s, q1, q2, q3, h⟩
  show V G l RX6 "fold" cX6_fold 3 (some .int) (rmd 5 0 0) E0 (Qm G (Rfo G a C st lc n len) sz 0 0) sz 0 0 21 [some (.ref (a + 0)), some (.int (nI n)), none] [.int (nI s)] (B G a C)
  refine V_istore_n dX6_fold_21 (by decide) (by dsimp only [List.set] <;> rfl) rfl ?_
  refine V_iload_n dX6_fold_22 rfl ?_
  by_cases hs0 : s = 0
  · subst hs0
    refine V_if_gt dX6_fold_23 (fun z => absurd z (by decide)) (fun _ => ?_)
    refine V_bipush (v := (-4)) dX6_fold_26 (by decide) ?_
    refine V_iret dX6_fold_28 rfl rfl rfl ?_
    exact fin _ _ (by rw [if_pos rfl]; exact Rw_i rfl rfl)
  have hsp : 0 < s := by omega
  have h2s := (q3 hsp).2.1
  refine V_if_gt dX6_fold_23 (fun _ => ?_) (fun z => absurd ((clt (by repeat (first | with_reducible rfl | with_reducible exact nlit | with_reducible apply nadd | with_reducible apply nmul | with_reducible apply nsub | with_reducible assumption | omega)) (by repeat (first | with_reducible rfl | with_reducible exact nlit | with_reducible apply nadd | with_reducible apply nmul | with_reducible apply nsub | with_reducible assumption | omega)) (by omega) (by omega)).mpr (by omega)) z)
  refine V_aload_n dX6_fold_29 rfl ?_
  refine V_bget dX6_fold_30 fX6_12 (by decide) rfl (by (try simp only [mset_s, mset_n, pk_us, pk_un, ne_eq, Nat.reduceEqDiff, Nat.reduceAdd, not_false_eq_true, not_true_eq_false]) <;> rfl) ?_
  refine V_bget dX6_fold_33 fX6_115 (by decide) rfl (by (try simp only [mset_s, mset_n, pk_us, pk_un, ne_eq, Nat.reduceEqDiff, Nat.reduceAdd, not_false_eq_true, not_true_eq_false]) <;> rfl) ?_
  refine V_callVw dX6_fold_36 kX6_94 ykX3_isFull (by decide) rfl rfl (tX3_isFull (q := 10) (cnt := lc) stk1.sh9 h10 hlc) rfl (Nat.le_of_ble_eq_true rfl) ⟨by decide, by decide, by decide, by decide⟩ ?_
  by_cases hl6 : lc = 6
  · refine V_if_eq dX6_fold_39 (fun z => absurd z (bI_ne0.mpr hl6)) (fun _ => ?_)
    refine V_bipush (v := (-3)) dX6_fold_42 (by decide) ?_
    refine V_iret dX6_fold_44 rfl rfl rfl ?_
    exact fin _ _ (by rw [if_neg hs0, if_pos hl6]; exact Rw_i rfl rfl)
  · refine V_if_eq dX6_fold_39 (fun _ => ?_) (fun z => absurd (bI_f hl6) z)
    refine V_aload_n dX6_fold_45 rfl ?_
    refine V_bget dX6_fold_46 fX6_19 (by decide) rfl (by (try simp only [mset_s, mset_n, pk_us, pk_un, ne_eq, Nat.reduceEqDiff, Nat.reduceAdd, not_false_eq_true, not_true_eq_false]) <;> rfl) ?_
    refine V_aload_n dX6_fold_49 rfl ?_
    refine V_bget dX6_fold_50 fX6_12 (by decide) rfl (by (try simp only [mset_s, mset_n, pk_us, pk_un, ne_eq, Nat.reduceEqDiff, Nat.reduceAdd, not_false_eq_true, not_true_eq_false]) <;> rfl) ?_
    refine V_callV dX6_fold_53 kX6_67 ykX0_push (B_at (by decide) rfl) rfl (tX0_push hHi h16 hst hop) rfl (Nat.le_of_ble_eq_true rfl) ⟨by decide, by decide, by decide, by decide⟩ ?_
    intro r h' hq
    obtain ⟨C1, rfl, rfl, hP⟩ := hq
    have hP1 := hP.1
    have c : ∀ i, i < 16 → C1 i = C i := fun i h => hP1 i (Or.inl h)
    show V G l RX6 "fold" cX6_fold 3 (some .int) (rmd 5 0 0) E0 (Qm G (Rfo G a C st lc n len) sz 0 0) sz 0 0 56 [some (.ref (a + 0)), some (.int (nI n)), some (.int (nI s))] [] (B G a C1)
    refine V_aload_n dX6_fold_56 rfl ?_
    refine V_iload_n dX6_fold_57 rfl ?_
    refine V_iload_n dX6_fold_58 rfl ?_
    refine V_iload_n dX6_fold_59 rfl ?_
    refine V_iload_n dX6_fold_60 rfl ?_
    refine V_aload_n dX6_fold_61 rfl ?_
    refine V_bget dX6_fold_62 fX6_12 (by decide) rfl (by (try simp only [mset_s, mset_n, pk_us, pk_un, ne_eq, Nat.reduceEqDiff, Nat.reduceAdd, not_false_eq_true, not_true_eq_false]) <;> rfl) ?_
    refine V_bget dX6_fold_65 fX6_74 (by decide) rfl (by (try simp only [mset_s, mset_n, pk_us, pk_un, ne_eq, Nat.reduceEqDiff, Nat.reduceAdd, not_false_eq_true, not_true_eq_false]) <;> rfl) ?_
    refine V_iload_n dX6_fold_68 rfl ?_
    refine V_callVw dX6_fold_69 kX6_118 ykX3_sizeOf (by decide) rfl rfl (tX3_sizeOf (q := 4) stk1.sh3 (by omega)) rfl (Nat.le_of_ble_eq_true rfl) ⟨by decide, by decide, by decide, by decide⟩ ?_
    rw [c (4 + 4) (by decide), show C (4 + 4) n = nI len from hl]
    refine V_iload_n dX6_fold_72 rfl ?_
    refine V_idiv dX6_fold_73 (by intro z; exact absurd ((ceq rfl nlit (by omega) (by omega)).mp z) (by omega)) ?_
    rw [pk_div (by omega) (by omega) (by omega)]
    refine V_callVw dX6_fold_74 kX6_121 ykX6_makeLoop (j := 0) (by decide) rfl rfl (tX6_makeLoop (lc := lc) (i := n) (j := n) (off := s) (size := s) (t := nI (len / s)) (by rw [c 10 (by decide)]; exact h10) (by omega) (by omega) (by omega) (by omega)) rfl (Nat.le_of_ble_eq_true rfl) ⟨by decide, by decide, by decide, by decide⟩ ?_
    refine V_iret dX6_fold_77 rfl rfl rfl ?_
    exact fin _ _ (by rw [if_neg hs0, if_neg hl6]; exact Rp_i rfl rfl hP)
end CLS
