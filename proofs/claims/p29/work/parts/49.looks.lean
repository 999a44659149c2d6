/-! TryLoops: isTurn, fits, turnsInRange, mostTurns, ifPlayed, fewestTurns. -/
abbrev turnP (C : CT) (n t i f k : Nat) : Prop := C 11 (n * 12 + k) = C 5 (i * 12 + (f + k)) ∧ C 12 (n * 12 + k) + nI t * C 13 (n * 12 + k) = C 6 (i * 12 + (f + k))
abbrev fitC (C : CT) (n len i li : Nat) : Prop := li % len = 0 ∧ ∀ k, k < li → C 5 (i * 12 + k) = C 11 (n * 12 + k % len) ∧ C 6 (i * 12 + k) = C 12 (n * 12 + k % len) + nI (k / len) * C 13 (n * 12 + k % len)
section CLS
variable {G : GT} {l : Launch} {sz a : Nat} {C : CT}
set_option maxHeartbeats 4000000 in
theorem tX6_isTurn {n t i f len : Nat} (hn : n < 6) (hi : i < 6) (hl : C 14 n = nI len) (hf : f + len ≤ 12) : Ct G l yX6_isTurn cX6_isTurn 7 (some .boolean) 3 0 0 sz [.ref a, .int (nI n), .int (nI t), .int (nI i), .int (nI f)] (B G a C) (Rw G a (.int (bI (∀ k, k < len → turnP C n t i f k))) C) := by
  refine Ct.of (own := RX6) (mn := "isTurn") (L0 := [some (.ref (a + 0)), some (.int (nI n)), some (.int (nI t)), some (.int (nI i)), some (.int (nI f)), none, none]) (by decide +kernel) rfl rfl rfl (Nat.le_of_ble_eq_true rfl) rfl ?_
  refine V_aload_n dX6_isTurn_0 rfl ?_
  refine V_bget dX6_isTurn_1 fX6_12 (by decide) rfl (by (try simp only [mset_s, mset_n, pk_us, pk_un, ne_eq, Nat.reduceEqDiff, Nat.reduceAdd, not_false_eq_true, not_true_eq_false]) <;> rfl) ?_
  refine V_bget dX6_isTurn_4 fX6_115 (by decide) rfl (by (try simp only [mset_s, mset_n, pk_us, pk_un, ne_eq, Nat.reduceEqDiff, Nat.reduceAdd, not_false_eq_true, not_true_eq_false]) <;> rfl) ?_
  refine V_iload_n dX6_isTurn_7 rfl ?_
  refine V_callVw dX6_isTurn_8 kX6_118 ykX3_sizeOf (by decide) rfl rfl (tX3_sizeOf (q := 10) stk1.sh9 hn) rfl (Nat.le_of_ble_eq_true rfl) ⟨by decide, by decide, by decide, by decide⟩ ?_
  rw [show C (10 + 4) n = nI len from hl]
  refine V_istore dX6_isTurn_11 (by decide) (by dsimp only [List.set] <;> rfl) rfl ?_
  refine V_iconst (v := 0) dX6_isTurn_13 (by decide) ?_
  refine V_istore dX6_isTurn_14 (by decide) (by dsimp only [List.set] <;> rfl) rfl ?_
  have key : ∀ (m k : Nat), k + m = len → (∀ q, q < k → turnP C n t i f q) → V G l RX6 "isTurn" cX6_isTurn 7 (some .boolean) (rmd 3 0 0) E0 (Qm G (Rw G a (.int (bI (∀ k, k < len → turnP C n t i f k))) C) sz 0 0) sz 0 0 16 [some (.ref (a + 0)), some (.int (nI n)), some (.int (nI t)), some (.int (nI i)), some (.int (nI f)), some (.int (nI len)), some (.int (nI k))] [] (B G a C) := by
    intro m
    induction m with
    | zero =>
      intro k hk hr
      obtain rfl : k = len := by omega
      refine V_iload dX6_isTurn_16 rfl ?_
      refine V_iload dX6_isTurn_18 rfl ?_
      refine V_icmp_ge dX6_isTurn_20 (fun _ => ?_) (fun z => absurd ((cle (by repeat (first | with_reducible rfl | with_reducible exact nlit | with_reducible apply nadd | with_reducible apply nmul | with_reducible apply nsub | with_reducible assumption | omega)) (by repeat (first | with_reducible rfl | with_reducible exact nlit | with_reducible apply nadd | with_reducible apply nmul | with_reducible apply nsub | with_reducible assumption | omega)) (by omega) (by omega)).mpr (by omega)) z)
      refine V_iconst (v := 1) dX6_isTurn_98 (by decide) ?_
      refine V_zret dX6_isTurn_99 rfl (by first | rfl | exact bI_nar) rfl rfl ?_
      exact Rw_i (bI_t hr).symm rfl
    | succ m ih =>
      intro k hk hr
      refine V_iload dX6_isTurn_16 rfl ?_
      refine V_iload dX6_isTurn_18 rfl ?_
      refine V_icmp_ge dX6_isTurn_20 (fun z => absurd z (fun z => absurd ((cle (by repeat (first | with_reducible rfl | with_reducible exact nlit | with_reducible apply nadd | with_reducible apply nmul | with_reducible apply nsub | with_reducible assumption | omega)) (by repeat (first | with_reducible rfl | with_reducible exact nlit | with_reducible apply nadd | with_reducible apply nmul | with_reducible apply nsub | with_reducible assumption | omega)) (by omega) (by omega)).mp z) (by omega))) (fun _ => ?_)
      refine V_aload_n dX6_isTurn_23 rfl ?_
      refine V_bget dX6_isTurn_24 fX6_12 (by decide) rfl (by (try simp only [mset_s, mset_n, pk_us, pk_un, ne_eq, Nat.reduceEqDiff, Nat.reduceAdd, not_false_eq_true, not_true_eq_false]) <;> rfl) ?_
      refine V_bget dX6_isTurn_27 fX6_115 (by decide) rfl (by (try simp only [mset_s, mset_n, pk_us, pk_un, ne_eq, Nat.reduceEqDiff, Nat.reduceAdd, not_false_eq_true, not_true_eq_false]) <;> rfl) ?_
      refine V_iload_n dX6_isTurn_30 rfl ?_
      refine V_iload dX6_isTurn_31 rfl ?_
      refine V_callVw dX6_isTurn_33 kX6_157 ykX3_verbAt (by decide) rfl rfl (tX3_verbAt (q := 10) (W := 12) stk1.sh9 hn (by omega)) rfl (Nat.le_of_ble_eq_true rfl) ⟨by decide, by decide, by decide, by decide⟩ ?_
      refine V_aload_n dX6_isTurn_36 rfl ?_
      refine V_bget dX6_isTurn_37 fX6_12 (by decide) rfl (by (try simp only [mset_s, mset_n, pk_us, pk_un, ne_eq, Nat.reduceEqDiff, Nat.reduceAdd, not_false_eq_true, not_true_eq_false]) <;> rfl) ?_
      refine V_bget dX6_isTurn_40 fX6_74 (by decide) rfl (by (try simp only [mset_s, mset_n, pk_us, pk_un, ne_eq, Nat.reduceEqDiff, Nat.reduceAdd, not_false_eq_true, not_true_eq_false]) <;> rfl) ?_
      refine V_iload_n dX6_isTurn_43 rfl ?_
      refine V_iload dX6_isTurn_44 rfl ?_
      refine V_iload dX6_isTurn_46 rfl ?_
      refine V_iadd dX6_isTurn_48 ?_
      rw [nI_add]
      refine V_callVw dX6_isTurn_49 kX6_157 ykX3_verbAt (by decide) rfl rfl (tX3_verbAt (q := 4) (W := 12) stk1.sh3 hi (by omega)) rfl (Nat.le_of_ble_eq_true rfl) ⟨by decide, by decide, by decide, by decide⟩ ?_
      refine V_icmp_eq dX6_isTurn_52 (fun c52 => ?_) (fun c52 => ?_)
      · refine V_aload_n dX6_isTurn_57 rfl ?_
        refine V_bget dX6_isTurn_58 fX6_12 (by decide) rfl (by (try simp only [mset_s, mset_n, pk_us, pk_un, ne_eq, Nat.reduceEqDiff, Nat.reduceAdd, not_false_eq_true, not_true_eq_false]) <;> rfl) ?_
        refine V_bget dX6_isTurn_61 fX6_115 (by decide) rfl (by (try simp only [mset_s, mset_n, pk_us, pk_un, ne_eq, Nat.reduceEqDiff, Nat.reduceAdd, not_false_eq_true, not_true_eq_false]) <;> rfl) ?_
        refine V_iload_n dX6_isTurn_64 rfl ?_
        refine V_iload dX6_isTurn_65 rfl ?_
        refine V_iload_n dX6_isTurn_67 rfl ?_
        refine V_callVw dX6_isTurn_68 kX6_187 ykX3_numberInTurn (by decide) rfl rfl (tX3_numberInTurn (q := 10) (W := 12) stk1.sh9 hn (by omega)) rfl (Nat.le_of_ble_eq_true rfl) ⟨by decide, by decide, by decide, by decide⟩ ?_
        refine V_aload_n dX6_isTurn_71 rfl ?_
        refine V_bget dX6_isTurn_72 fX6_12 (by decide) rfl (by (try simp only [mset_s, mset_n, pk_us, pk_un, ne_eq, Nat.reduceEqDiff, Nat.reduceAdd, not_false_eq_true, not_true_eq_false]) <;> rfl) ?_
        refine V_bget dX6_isTurn_75 fX6_74 (by decide) rfl (by (try simp only [mset_s, mset_n, pk_us, pk_un, ne_eq, Nat.reduceEqDiff, Nat.reduceAdd, not_false_eq_true, not_true_eq_false]) <;> rfl) ?_
        refine V_iload_n dX6_isTurn_78 rfl ?_
        refine V_iload dX6_isTurn_79 rfl ?_
        refine V_iload dX6_isTurn_81 rfl ?_
        refine V_iadd dX6_isTurn_83 ?_
        rw [nI_add]
        refine V_callVw dX6_isTurn_84 kX6_161 ykX3_numberAt (by decide) rfl rfl (tX3_numberAt (q := 4) (W := 12) stk1.sh3 hi (by omega)) rfl (Nat.le_of_ble_eq_true rfl) ⟨by decide, by decide, by decide, by decide⟩ ?_
        refine V_icmp_eq dX6_isTurn_87 (fun c87 => ?_) (fun c87 => ?_)
        · refine V_iinc dX6_isTurn_92 rfl (ninc _) (by decide) (by dsimp only [List.set] <;> rfl) ?_
          refine V_goto dX6_isTurn_95 ?_
          refine ih (k + 1) (by omega) (fun q hq => ?_)
          rcases Nat.lt_or_ge q k with y | y
          · exact hr q y
          · obtain rfl : q = k := by omega
            exact ⟨c52, c87⟩
        · refine V_iconst (v := 0) dX6_isTurn_90 (by decide) ?_
          refine V_zret dX6_isTurn_91 rfl (by first | rfl | exact bI_nar) rfl rfl ?_
          exact Rw_i (bI_f (fun q => c87 (q k (by omega)).2)).symm rfl
      · refine V_iconst (v := 0) dX6_isTurn_55 (by decide) ?_
        refine V_zret dX6_isTurn_56 rfl (by first | rfl | exact bI_nar) rfl rfl ?_
        exact Rw_i (bI_f (fun q => c52 (q k (by omega)).1)).symm rfl
  exact key len 0 (by omega) (fun q hq => absurd hq (by omega))
theorem tX6_fits_o {tc lc : Nat} (x1 x2 : Int32) (h4 : C 4 0 = nI tc) (htc : tc ≤ 6) (h10 : C 10 0 = nI lc) (hlc : lc ≤ 6) (hx : ¬ (isIx x1 lc ∧ isIx x2 tc)) : Ct G l yX6_fits cX6_fits 7 (some .int) 4 0 0 sz [.ref a, .int x1, .int x2] (B G a C) (Rw G a (.int (-1)) C) := by
  refine Ct.of (own := RX6) (mn := "fits") (L0 := [some (.ref (a + 0)), some (.int x1), some (.int x2), none, none, none, none]) (by decide +kernel) rfl rfl rfl (Nat.le_of_ble_eq_true rfl) rfl ?_
  refine V_aload_n dX6_fits_0 rfl ?_
  refine V_bget dX6_fits_1 fX6_12 (by decide) rfl (by (try simp only [mset_s, mset_n, pk_us, pk_un, ne_eq, Nat.reduceEqDiff, Nat.reduceAdd, not_false_eq_true, not_true_eq_false]) <;> rfl) ?_
  refine V_bget dX6_fits_4 fX6_115 (by decide) rfl (by (try simp only [mset_s, mset_n, pk_us, pk_un, ne_eq, Nat.reduceEqDiff, Nat.reduceAdd, not_false_eq_true, not_true_eq_false]) <;> rfl) ?_
  refine V_iload_n dX6_fits_7 rfl ?_
  refine V_callVw dX6_fits_8 kX6_105 ykX3_holds (by decide) rfl rfl (tX3_holds (q := 10) (cnt := lc) stk1.sh9 h10 (by omega)) rfl (Nat.le_of_ble_eq_true rfl) ⟨by decide, by decide, by decide, by decide⟩ ?_
  by_cases h1 : isIx x1 lc
  · refine V_if_eq dX6_fits_11 (fun z => absurd z (bI_ne0.mpr h1)) (fun _ => ?_)
    refine V_aload_n dX6_fits_14 rfl ?_
    refine V_bget dX6_fits_15 fX6_12 (by decide) rfl (by (try simp only [mset_s, mset_n, pk_us, pk_un, ne_eq, Nat.reduceEqDiff, Nat.reduceAdd, not_false_eq_true, not_true_eq_false]) <;> rfl) ?_
    refine V_bget dX6_fits_18 fX6_74 (by decide) rfl (by (try simp only [mset_s, mset_n, pk_us, pk_un, ne_eq, Nat.reduceEqDiff, Nat.reduceAdd, not_false_eq_true, not_true_eq_false]) <;> rfl) ?_
    refine V_iload_n dX6_fits_21 rfl ?_
    refine V_callVw dX6_fits_22 kX6_105 ykX3_holds (by decide) rfl rfl (tX3_holds (q := 4) (cnt := tc) stk1.sh3 h4 (by omega)) rfl (Nat.le_of_ble_eq_true rfl) ⟨by decide, by decide, by decide, by decide⟩ ?_
    refine V_if_ne dX6_fits_25 (fun z => absurd z (fun z => z (bI_f (fun w => hx ⟨h1, w⟩)))) (fun _ => ?_)
    refine V_iconst (v := (-1)) dX6_fits_28 (by decide) ?_
    refine V_iret dX6_fits_29 rfl rfl rfl ?_
    exact Rw_i rfl rfl
  · refine V_if_eq dX6_fits_11 (fun _ => ?_) (fun z => absurd (bI_f h1) z)
    refine V_iconst (v := (-1)) dX6_fits_28 (by decide) ?_
    refine V_iret dX6_fits_29 rfl rfl rfl ?_
    exact Rw_i rfl rfl
set_option maxHeartbeats 4000000 in
theorem tX6_fits {tc lc n len i li : Nat} (h4 : C 4 0 = nI tc) (htc : tc ≤ 6) (h10 : C 10 0 = nI lc) (hlc : lc ≤ 6) (hn : n < lc) (hi : i < tc) (hl : C 14 n = nI len) (hlen : len ≤ 12) (h1 : 1 ≤ len) (hli : C 8 i = nI li) (hli2 : li ≤ 12) : Ct G l yX6_fits cX6_fits 7 (some .int) 4 0 0 sz [.ref a, .int (nI n), .int (nI i)] (B G a C) (Rw G a (.int (if fitC C n len i li then nI (li / len) else -5)) C) := by
  refine Ct.of (own := RX6) (mn := "fits") (L0 := [some (.ref (a + 0)), some (.int (nI n)), some (.int (nI i)), none, none, none, none]) (by decide +kernel) rfl rfl rfl (Nat.le_of_ble_eq_true rfl) rfl ?_
  refine V_aload_n dX6_fits_0 rfl ?_
  refine V_bget dX6_fits_1 fX6_12 (by decide) rfl (by (try simp only [mset_s, mset_n, pk_us, pk_un, ne_eq, Nat.reduceEqDiff, Nat.reduceAdd, not_false_eq_true, not_true_eq_false]) <;> rfl) ?_
  refine V_bget dX6_fits_4 fX6_115 (by decide) rfl (by (try simp only [mset_s, mset_n, pk_us, pk_un, ne_eq, Nat.reduceEqDiff, Nat.reduceAdd, not_false_eq_true, not_true_eq_false]) <;> rfl) ?_
  refine V_iload_n dX6_fits_7 rfl ?_
  refine V_callVw dX6_fits_8 kX6_105 ykX3_holds (by decide) rfl rfl (tX3_holds (q := 10) (cnt := lc) stk1.sh9 h10 (by omega)) rfl (Nat.le_of_ble_eq_true rfl) ⟨by decide, by decide, by decide, by decide⟩ ?_
  refine V_if_eq dX6_fits_11 (fun z => absurd z (bI_ne0.mpr (isIx_nI hn (by omega)))) (fun _ => ?_)
  refine V_aload_n dX6_fits_14 rfl ?_
  refine V_bget dX6_fits_15 fX6_12 (by decide) rfl (by (try simp only [mset_s, mset_n, pk_us, pk_un, ne_eq, Nat.reduceEqDiff, Nat.reduceAdd, not_false_eq_true, not_true_eq_false]) <;> rfl) ?_
  refine V_bget dX6_fits_18 fX6_74 (by decide) rfl (by (try simp only [mset_s, mset_n, pk_us, pk_un, ne_eq, Nat.reduceEqDiff, Nat.reduceAdd, not_false_eq_true, not_true_eq_false]) <;> rfl) ?_
  refine V_iload_n dX6_fits_21 rfl ?_
  refine V_callVw dX6_fits_22 kX6_105 ykX3_holds (by decide) rfl rfl (tX3_holds (q := 4) (cnt := tc) stk1.sh3 h4 (by omega)) rfl (Nat.le_of_ble_eq_true rfl) ⟨by decide, by decide, by decide, by decide⟩ ?_
  refine V_if_ne dX6_fits_25 (fun _ => ?_) (fun z => absurd z ((bI_ne0.mpr (isIx_nI hi (by omega)))))
  refine V_aload_n dX6_fits_30 rfl ?_
  refine V_bget dX6_fits_31 fX6_12 (by decide) rfl (by (try simp only [mset_s, mset_n, pk_us, pk_un, ne_eq, Nat.reduceEqDiff, Nat.reduceAdd, not_false_eq_true, not_true_eq_false]) <;> rfl) ?_
  refine V_bget dX6_fits_34 fX6_115 (by decide) rfl (by (try simp only [mset_s, mset_n, pk_us, pk_un, ne_eq, Nat.reduceEqDiff, Nat.reduceAdd, not_false_eq_true, not_true_eq_false]) <;> rfl) ?_
  refine V_iload_n dX6_fits_37 rfl ?_
  refine V_callVw dX6_fits_38 kX6_118 ykX3_sizeOf (by decide) rfl rfl (tX3_sizeOf (q := 10) stk1.sh9 (by omega)) rfl (Nat.le_of_ble_eq_true rfl) ⟨by decide, by decide, by decide, by decide⟩ ?_
  rw [show C (10 + 4) n = nI len from hl]
  refine V_istore_n dX6_fits_41 (by decide) (by dsimp only [List.set] <;> rfl) rfl ?_
  refine V_aload_n dX6_fits_42 rfl ?_
  refine V_bget dX6_fits_43 fX6_12 (by decide) rfl (by (try simp only [mset_s, mset_n, pk_us, pk_un, ne_eq, Nat.reduceEqDiff, Nat.reduceAdd, not_false_eq_true, not_true_eq_false]) <;> rfl) ?_
  refine V_bget dX6_fits_46 fX6_74 (by decide) rfl (by (try simp only [mset_s, mset_n, pk_us, pk_un, ne_eq, Nat.reduceEqDiff, Nat.reduceAdd, not_false_eq_true, not_true_eq_false]) <;> rfl) ?_
  refine V_iload_n dX6_fits_49 rfl ?_
  refine V_callVw dX6_fits_50 kX6_118 ykX3_sizeOf (by decide) rfl rfl (tX3_sizeOf (q := 4) stk1.sh3 (by omega)) rfl (Nat.le_of_ble_eq_true rfl) ⟨by decide, by decide, by decide, by decide⟩ ?_
  rw [show C (4 + 4) i = nI li from hli]
  refine V_istore dX6_fits_53 (by decide) (by dsimp only [List.set] <;> rfl) rfl ?_
  refine V_iload_n dX6_fits_55 rfl ?_
  refine V_if_le dX6_fits_56 (fun z => absurd z (fun z => absurd ((cle (by repeat (first | with_reducible rfl | with_reducible exact nlit | with_reducible apply nadd | with_reducible apply nmul | with_reducible apply nsub | with_reducible assumption | omega)) (by repeat (first | with_reducible rfl | with_reducible exact nlit | with_reducible apply nadd | with_reducible apply nmul | with_reducible apply nsub | with_reducible assumption | omega)) (by omega) (by omega)).mp z) (by omega))) (fun _ => ?_)
  refine V_iload dX6_fits_59 rfl ?_
  refine V_iload_n dX6_fits_61 rfl ?_
  refine V_irem dX6_fits_62 (by intro z; exact absurd ((ceq rfl nlit (by omega) (by omega)).mp z) (by omega)) ?_
  rw [pk_rem (by omega) (by omega) (by omega)]
  by_cases hm : li % len = 0
  · refine V_if_eq dX6_fits_63 (fun _ => ?_) (fun z => absurd (by rw [hm]; rfl) z)
    refine V_iload dX6_fits_69 rfl ?_
    refine V_iload_n dX6_fits_71 rfl ?_
    refine V_idiv dX6_fits_72 (by intro z; exact absurd ((ceq rfl nlit (by omega) (by omega)).mp z) (by omega)) ?_
    rw [pk_div (by omega) (by omega) (by omega)]
    refine V_istore dX6_fits_73 (by decide) (by dsimp only [List.set] <;> rfl) rfl ?_
    refine V_iconst (v := 0) dX6_fits_75 (by decide) ?_
    refine V_istore dX6_fits_76 (by decide) (by dsimp only [List.set] <;> rfl) rfl ?_
    have hd : li / len * len = li := Nat.div_mul_cancel (Nat.dvd_of_mod_eq_zero hm)
    have hdl : li / len ≤ 12 := Nat.le_trans (Nat.div_le_self li len) hli2
    have key : ∀ (m t : Nat), t + m = li / len → (∀ k, k < t * len → C 5 (i * 12 + k) = C 11 (n * 12 + k % len) ∧ C 6 (i * 12 + k) = C 12 (n * 12 + k % len) + nI (k / len) * C 13 (n * 12 + k % len)) → V G l RX6 "fits" cX6_fits 7 (some .int) (rmd 4 0 0) E0 (Qm G (Rw G a (.int (if fitC C n len i li then nI (li / len) else -5)) C) sz 0 0) sz 0 0 78 [some (.ref (a + 0)), some (.int (nI n)), some (.int (nI i)), some (.int (nI len)), some (.int (nI li)), some (.int (nI (li / len))), some (.int (nI t))] [] (B G a C) := by
      intro m
      induction m with
      | zero =>
        intro t ht hr
        obtain rfl : t = li / len := by omega
        refine V_iload dX6_fits_78 rfl ?_
        refine V_iload dX6_fits_80 rfl ?_
        refine V_icmp_ge dX6_fits_82 (fun _ => ?_) (fun z => absurd ((cle (by repeat (first | with_reducible rfl | with_reducible exact nlit | with_reducible apply nadd | with_reducible apply nmul | with_reducible apply nsub | with_reducible assumption | omega)) (by repeat (first | with_reducible rfl | with_reducible exact nlit | with_reducible apply nadd | with_reducible apply nmul | with_reducible apply nsub | with_reducible assumption | omega)) (by omega) (by omega)).mpr (by omega)) z)
        refine V_iload dX6_fits_109 rfl ?_
        refine V_iret dX6_fits_111 rfl rfl rfl ?_
        exact Rw_i (by rw [if_pos ⟨hm, by rw [← hd]; exact hr⟩]) rfl
      | succ m ih =>
        intro t ht hr
        have hle : (t + 1) * len ≤ li := by
          have : (t + 1) * len ≤ li / len * len := Nat.mul_le_mul_right len (by omega)
          rw [hd] at this
          exact this
        rw [Nat.add_mul, Nat.one_mul] at hle
        refine V_iload dX6_fits_78 rfl ?_
        refine V_iload dX6_fits_80 rfl ?_
        refine V_icmp_ge dX6_fits_82 (fun z => absurd z (fun z => absurd ((cle (by repeat (first | with_reducible rfl | with_reducible exact nlit | with_reducible apply nadd | with_reducible apply nmul | with_reducible apply nsub | with_reducible assumption | omega)) (by repeat (first | with_reducible rfl | with_reducible exact nlit | with_reducible apply nadd | with_reducible apply nmul | with_reducible apply nsub | with_reducible assumption | omega)) (by omega) (by omega)).mp z) (by omega))) (fun _ => ?_)
        refine V_aload_n dX6_fits_85 rfl ?_
        refine V_iload_n dX6_fits_86 rfl ?_
        refine V_iload dX6_fits_87 rfl ?_
        refine V_iload_n dX6_fits_89 rfl ?_
        refine V_iload dX6_fits_90 rfl ?_
        refine V_iload_n dX6_fits_92 rfl ?_
        refine V_imul dX6_fits_93 ?_
        rw [pk_mul]
        refine V_callVw dX6_fits_94 kX6_219 ykX6_isTurn (j := 0) (by decide) rfl rfl (tX6_isTurn (n := n) (t := t) (i := i) (f := t * len) (len := len) (by omega) (by omega) hl (by omega)) rfl (Nat.le_of_ble_eq_true rfl) ⟨by decide, by decide, by decide, by decide⟩ ?_
        have tp : ∀ k, k < len → (t * len + k) % len = k ∧ (t * len + k) / len = t := fun k hk => ⟨by rw [Nat.mul_comm, Nat.mul_add_mod, Nat.mod_eq_of_lt hk], by rw [Nat.mul_comm, Nat.mul_add_div h1, Nat.div_eq_of_lt hk, Nat.add_zero]⟩
        by_cases hu : ∀ k, k < len → turnP C n t i (t * len) k
        · refine V_if_ne dX6_fits_97 (fun _ => ?_) (fun z => absurd z ((bI_ne0.mpr hu)))
          refine V_iinc dX6_fits_103 rfl (ninc _) (by decide) (by dsimp only [List.set] <;> rfl) ?_
          refine V_goto dX6_fits_106 ?_
          refine ih (t + 1) (by omega) (fun k hk => ?_)
          rw [Nat.add_mul, Nat.one_mul] at hk
          rcases Nat.lt_or_ge k (t * len) with y | y
          · exact hr k y
          · obtain ⟨k', rfl⟩ : ∃ k', k = t * len + k' := ⟨k - t * len, by omega⟩
            have := hu k' (by omega)
            obtain ⟨t1, t2⟩ := tp k' (by omega)
            rw [t1, t2]
            exact ⟨this.1.symm, this.2.symm⟩
        · refine V_if_ne dX6_fits_97 (fun z => absurd z (fun z => z (bI_f hu))) (fun _ => ?_)
          refine V_bipush (v := (-5)) dX6_fits_100 (by decide) ?_
          refine V_iret dX6_fits_102 rfl rfl rfl ?_
          refine Rw_i ?_ rfl
          rw [if_neg (fun q => hu (fun k hk => ?_))]
          have := q.2 (t * len + k) (by omega)
          obtain ⟨t1, t2⟩ := tp k hk
          rw [t1, t2] at this
          exact ⟨this.1.symm, this.2.symm⟩
    exact key (li / len) 0 (by omega) (fun k hk => absurd hk (by omega))
  · refine V_if_eq dX6_fits_63 (fun z => absurd z (by intro z; exact hm ((ceq rfl nlit (by have := Nat.mod_le li len; omega) (by omega)).mp z))) (fun _ => ?_)
    refine V_bipush (v := (-5)) dX6_fits_66 (by decide) ?_
    refine V_iret dX6_fits_68 rfl rfl rfl ?_
    exact Rw_i (by rw [if_neg (fun q => hm q.1)]) rfl
set_option maxHeartbeats 4000000 in
theorem tX6_turnsInRange {n k : Nat} (hn : n < 6) (hk : k < 12) : Ct G l yX6_turnsInRange cX6_turnsInRange 5 (some .int) 2 0 0 sz [.ref a, .int (nI n), .int (nI k)] (B G a C) (Rw G a (.int (mtU (C 11 (n * 12 + k)) (C 12 (n * 12 + k)) (C 13 (n * 12 + k)))) C) := by
  refine Ct.of (own := RX6) (mn := "turnsInRange") (L0 := [some (.ref (a + 0)), some (.int (nI n)), some (.int (nI k)), none, none]) (by decide +kernel) rfl rfl rfl (Nat.le_of_ble_eq_true rfl) rfl ?_
  refine V_aload_n dX6_turnsInRange_0 rfl ?_
  refine V_bget dX6_turnsInRange_1 fX6_12 (by decide) rfl (by (try simp only [mset_s, mset_n, pk_us, pk_un, ne_eq, Nat.reduceEqDiff, Nat.reduceAdd, not_false_eq_true, not_true_eq_false]) <;> rfl) ?_
  refine V_bget dX6_turnsInRange_4 fX6_115 (by decide) rfl (by (try simp only [mset_s, mset_n, pk_us, pk_un, ne_eq, Nat.reduceEqDiff, Nat.reduceAdd, not_false_eq_true, not_true_eq_false]) <;> rfl) ?_
  refine V_iload_n dX6_turnsInRange_7 rfl ?_
  refine V_iload_n dX6_turnsInRange_8 rfl ?_
  refine V_callVw dX6_turnsInRange_9 kX6_161 ykX3_numberAt (by decide) rfl rfl (tX3_numberAt (q := 10) (W := 12) stk1.sh9 hn hk) rfl (Nat.le_of_ble_eq_true rfl) ⟨by decide, by decide, by decide, by decide⟩ ?_
  refine V_istore_n dX6_turnsInRange_12 (by decide) (by dsimp only [List.set] <;> rfl) rfl ?_
  refine V_aload_n dX6_turnsInRange_13 rfl ?_
  refine V_bget dX6_turnsInRange_14 fX6_12 (by decide) rfl (by (try simp only [mset_s, mset_n, pk_us, pk_un, ne_eq, Nat.reduceEqDiff, Nat.reduceAdd, not_false_eq_true, not_true_eq_false]) <;> rfl) ?_
  refine V_bget dX6_turnsInRange_17 fX6_115 (by decide) rfl (by (try simp only [mset_s, mset_n, pk_us, pk_un, ne_eq, Nat.reduceEqDiff, Nat.reduceAdd, not_false_eq_true, not_true_eq_false]) <;> rfl) ?_
  refine V_iload_n dX6_turnsInRange_20 rfl ?_
  refine V_iload_n dX6_turnsInRange_21 rfl ?_
  refine V_callVw dX6_turnsInRange_22 kX6_184 ykX3_strideAt (by decide) rfl rfl (tX3_strideAt (q := 10) (W := 12) stk1.sh9 hn hk) rfl (Nat.le_of_ble_eq_true rfl) ⟨by decide, by decide, by decide, by decide⟩ ?_
  refine V_istore dX6_turnsInRange_25 (by decide) (by dsimp only [List.set] <;> rfl) rfl ?_
  refine V_iload dX6_turnsInRange_27 rfl ?_
  refine V_if_le dX6_turnsInRange_29 (fun c29 => ?_) (fun c29 => ?_)
  · refine V_iload dX6_turnsInRange_55 rfl ?_
    refine V_if_ge dX6_turnsInRange_57 (fun c57 => ?_) (fun c57 => ?_)
    · refine V_bipush (v := (-5)) dX6_turnsInRange_68 (by decide) ?_
      refine V_iret dX6_turnsInRange_70 rfl rfl rfl ?_
      refine Rw_i ?_ rfl
      have h0 : C 13 (n * 12 + k) = 0 := by
        rw [i_le] at c29 c57
        rw [i_eq]
        have : (0 : Int32).toInt = 0 := rfl
        have c29' : (C 13 (n * 12 + k)).toInt ≤ (0 : Int32).toInt := c29
        have c57' : (0 : Int32).toInt ≤ (C 13 (n * 12 + k)).toInt := c57
        omega
      unfold mtU
      rw [if_pos h0]
    · have hlt : C 13 (n * 12 + k) < 0 := by
        rw [i_le] at c57
        rw [i_lt]
        have c57' : ¬ (0 : Int32).toInt ≤ (C 13 (n * 12 + k)).toInt := c57
        omega
      refine V_iload_n dX6_turnsInRange_60 rfl ?_
      refine V_iload dX6_turnsInRange_61 rfl ?_
      refine V_ineg dX6_turnsInRange_63 ?_
      refine V_idiv dX6_turnsInRange_64 (by intro z; have z2 := congrArg (fun w : Int32 => -w) z; simp only [Int32.neg_neg] at z2; rw [show C 13 (n * 12 + k) = 0 from z2] at hlt; exact absurd hlt (by decide)) ?_
      refine V_iconst (v := 1) dX6_turnsInRange_65 (by decide) ?_
      refine V_iadd dX6_turnsInRange_66 ?_
      refine V_iret dX6_turnsInRange_67 rfl rfl rfl ?_
      refine Rw_i ?_ rfl
      unfold mtU
      rw [if_neg (fun z => by rw [z] at hlt; exact absurd hlt (by decide)), if_neg (fun z => by rw [i_lt] at z hlt; omega), Int32.add_comm]
  · have hlt : 0 < C 13 (n * 12 + k) := by
      rw [i_le] at c29
      rw [i_lt]
      have c29' : ¬ (C 13 (n * 12 + k)).toInt ≤ (0 : Int32).toInt := c29
      omega
    refine V_aload_n dX6_turnsInRange_32 rfl ?_
    refine V_bget dX6_turnsInRange_33 fX6_12 (by decide) rfl (by (try simp only [mset_s, mset_n, pk_us, pk_un, ne_eq, Nat.reduceEqDiff, Nat.reduceAdd, not_false_eq_true, not_true_eq_false]) <;> rfl) ?_
    refine V_bget dX6_turnsInRange_36 fX6_115 (by decide) rfl (by (try simp only [mset_s, mset_n, pk_us, pk_un, ne_eq, Nat.reduceEqDiff, Nat.reduceAdd, not_false_eq_true, not_true_eq_false]) <;> rfl) ?_
    refine V_iload_n dX6_turnsInRange_39 rfl ?_
    refine V_iload_n dX6_turnsInRange_40 rfl ?_
    refine V_callVw dX6_turnsInRange_41 kX6_157 ykX3_verbAt (by decide) rfl rfl (tX3_verbAt (q := 10) (W := 12) stk1.sh9 hn hk) rfl (Nat.le_of_ble_eq_true rfl) ⟨by decide, by decide, by decide, by decide⟩ ?_
    refine V_callSw dX6_turnsInRange_44 kX6_249 ykX6_greatestNumber (tX6_greatestNumber _) rfl (Nat.le_of_ble_eq_true rfl) ⟨by decide, by decide, by decide, by decide⟩ ?_
    refine V_iload_n dX6_turnsInRange_47 rfl ?_
    refine V_isub dX6_turnsInRange_48 ?_
    refine V_iload dX6_turnsInRange_49 rfl ?_
    refine V_idiv dX6_turnsInRange_51 (fun z => by rw [show C (10 + 3) (n * 12 + k) = 0 from z] at hlt; exact absurd hlt (by decide)) ?_
    refine V_iconst (v := 1) dX6_turnsInRange_52 (by decide) ?_
    refine V_iadd dX6_turnsInRange_53 ?_
    refine V_iret dX6_turnsInRange_54 rfl rfl rfl ?_
    refine Rw_i ?_ rfl
    unfold mtU
    rw [if_neg (fun z => by rw [z] at hlt; exact absurd hlt (by decide)), if_pos hlt, Int32.add_comm]
theorem tX6_mostTurns_o {lc : Nat} (x1 : Int32) (h10 : C 10 0 = nI lc) (hlc : lc ≤ 6) (hx : ¬ isIx x1 lc) : Ct G l yX6_mostTurns cX6_mostTurns 6 (some .int) 3 0 0 sz [.ref a, .int x1] (B G a C) (Rw G a (.int (-1)) C) := by
  refine Ct.of (own := RX6) (mn := "mostTurns") (L0 := [some (.ref (a + 0)), some (.int x1), none, none, none, none]) (by decide +kernel) rfl rfl rfl (Nat.le_of_ble_eq_true rfl) rfl ?_
  refine V_aload_n dX6_mostTurns_0 rfl ?_
  refine V_bget dX6_mostTurns_1 fX6_12 (by decide) rfl (by (try simp only [mset_s, mset_n, pk_us, pk_un, ne_eq, Nat.reduceEqDiff, Nat.reduceAdd, not_false_eq_true, not_true_eq_false]) <;> rfl) ?_
  refine V_bget dX6_mostTurns_4 fX6_115 (by decide) rfl (by (try simp only [mset_s, mset_n, pk_us, pk_un, ne_eq, Nat.reduceEqDiff, Nat.reduceAdd, not_false_eq_true, not_true_eq_false]) <;> rfl) ?_
  refine V_iload_n dX6_mostTurns_7 rfl ?_
  refine V_callVw dX6_mostTurns_8 kX6_105 ykX3_holds (by decide) rfl rfl (tX3_holds (q := 10) (cnt := lc) stk1.sh9 h10 (by omega)) rfl (Nat.le_of_ble_eq_true rfl) ⟨by decide, by decide, by decide, by decide⟩ ?_
  refine V_if_ne dX6_mostTurns_11 (fun z => absurd z (fun z => z (bI_f hx))) (fun _ => ?_)
  refine V_iconst (v := (-1)) dX6_mostTurns_14 (by decide) ?_
  refine V_iret dX6_mostTurns_15 rfl rfl rfl ?_
  exact Rw_i rfl rfl
abbrev lvC (C : CT) (n k : Nat) : Int32 := C 11 (n * 12 + k)
abbrev lnC (C : CT) (n k : Nat) : Int32 := C 12 (n * 12 + k)
abbrev lsC (C : CT) (n k : Nat) : Int32 := C 13 (n * 12 + k)
set_option maxHeartbeats 4000000 in
theorem tX6_mostTurns {lc n len : Nat} (h10 : C 10 0 = nI lc) (hlc : lc ≤ 6) (hn : n < lc) (hl : C 14 n = nI len) (hlen : len ≤ 12) : Ct G l yX6_mostTurns cX6_mostTurns 6 (some .int) 3 0 0 sz [.ref a, .int (nI n)] (B G a C) (Rw G a (.int (mtF (lvC C n) (lnC C n) (lsC C n) len)) C) := by
  refine Ct.of (own := RX6) (mn := "mostTurns") (L0 := [some (.ref (a + 0)), some (.int (nI n)), none, none, none, none]) (by decide +kernel) rfl rfl rfl (Nat.le_of_ble_eq_true rfl) rfl ?_
  refine V_aload_n dX6_mostTurns_0 rfl ?_
  refine V_bget dX6_mostTurns_1 fX6_12 (by decide) rfl (by (try simp only [mset_s, mset_n, pk_us, pk_un, ne_eq, Nat.reduceEqDiff, Nat.reduceAdd, not_false_eq_true, not_true_eq_false]) <;> rfl) ?_
  refine V_bget dX6_mostTurns_4 fX6_115 (by decide) rfl (by (try simp only [mset_s, mset_n, pk_us, pk_un, ne_eq, Nat.reduceEqDiff, Nat.reduceAdd, not_false_eq_true, not_true_eq_false]) <;> rfl) ?_
  refine V_iload_n dX6_mostTurns_7 rfl ?_
  refine V_callVw dX6_mostTurns_8 kX6_105 ykX3_holds (by decide) rfl rfl (tX3_holds (q := 10) (cnt := lc) stk1.sh9 h10 (by omega)) rfl (Nat.le_of_ble_eq_true rfl) ⟨by decide, by decide, by decide, by decide⟩ ?_
  refine V_if_ne dX6_mostTurns_11 (fun _ => ?_) (fun z => absurd z ((bI_ne0.mpr (isIx_nI hn (by omega)))))
  refine V_bipush (v := (-5)) dX6_mostTurns_16 (by decide) ?_
  refine V_istore_n dX6_mostTurns_18 (by decide) (by dsimp only [List.set] <;> rfl) rfl ?_
  refine V_aload_n dX6_mostTurns_19 rfl ?_
  refine V_bget dX6_mostTurns_20 fX6_12 (by decide) rfl (by (try simp only [mset_s, mset_n, pk_us, pk_un, ne_eq, Nat.reduceEqDiff, Nat.reduceAdd, not_false_eq_true, not_true_eq_false]) <;> rfl) ?_
  refine V_bget dX6_mostTurns_23 fX6_115 (by decide) rfl (by (try simp only [mset_s, mset_n, pk_us, pk_un, ne_eq, Nat.reduceEqDiff, Nat.reduceAdd, not_false_eq_true, not_true_eq_false]) <;> rfl) ?_
  refine V_iload_n dX6_mostTurns_26 rfl ?_
  refine V_callVw dX6_mostTurns_27 kX6_118 ykX3_sizeOf (by decide) rfl rfl (tX3_sizeOf (q := 10) stk1.sh9 (by omega)) rfl (Nat.le_of_ble_eq_true rfl) ⟨by decide, by decide, by decide, by decide⟩ ?_
  rw [show C (10 + 4) n = nI len from hl]
  refine V_istore_n dX6_mostTurns_30 (by decide) (by dsimp only [List.set] <;> rfl) rfl ?_
  refine V_iconst (v := 0) dX6_mostTurns_31 (by decide) ?_
  refine V_istore dX6_mostTurns_32 (by decide) (by dsimp only [List.set] <;> rfl) rfl ?_
  have key : ∀ (m k : Nat) (L5 : Option Value), k + m = len → V G l RX6 "mostTurns" cX6_mostTurns 6 (some .int) (rmd 3 0 0) E0 (Qm G (Rw G a (.int (mtF (lvC C n) (lnC C n) (lsC C n) len)) C) sz 0 0) sz 0 0 34 [some (.ref (a + 0)), some (.int (nI n)), some (.int (mtF (lvC C n) (lnC C n) (lsC C n) k)), some (.int (nI len)), some (.int (nI k)), L5] [] (B G a C) := by
    intro m
    induction m with
    | zero =>
      intro k L5 hk
      obtain rfl : k = len := by omega
      refine V_iload dX6_mostTurns_34 rfl ?_
      refine V_iload_n dX6_mostTurns_36 rfl ?_
      refine V_icmp_ge dX6_mostTurns_37 (fun _ => ?_) (fun z => absurd ((cle (by repeat (first | with_reducible rfl | with_reducible exact nlit | with_reducible apply nadd | with_reducible apply nmul | with_reducible apply nsub | with_reducible assumption | omega)) (by repeat (first | with_reducible rfl | with_reducible exact nlit | with_reducible apply nadd | with_reducible apply nmul | with_reducible apply nsub | with_reducible assumption | omega)) (by omega) (by omega)).mpr (by omega)) z)
      refine V_iload_n dX6_mostTurns_77 rfl ?_
      refine V_iret dX6_mostTurns_78 rfl rfl rfl ?_
      exact Rw_i rfl rfl
    | succ m ih =>
      intro k L5 hk
      obtain ⟨w, hw⟩ : ∃ w, w = mtU (C 11 (n * 12 + k)) (C 12 (n * 12 + k)) (C 13 (n * 12 + k)) := ⟨_, rfl⟩
      obtain ⟨M, hM⟩ : ∃ M, M = mtF (lvC C n) (lnC C n) (lsC C n) k := ⟨_, rfl⟩
      have es : mtF (lvC C n) (lnC C n) (lsC C n) (k + 1) = if ¬ w = -5 ∧ (M = -5 ∨ w < M) then w else M := by
        rw [mtF, mtStep, ← hM]
        show (if ¬ mtU (C 11 (n * 12 + k)) (C 12 (n * 12 + k)) (C 13 (n * 12 + k)) = -5 ∧ (M = -5 ∨ mtU (C 11 (n * 12 + k)) (C 12 (n * 12 + k)) (C 13 (n * 12 + k)) < M) then mtU (C 11 (n * 12 + k)) (C 12 (n * 12 + k)) (C 13 (n * 12 + k)) else M) = _
        rw [← hw]
      have go := ih (k + 1) (some (.int w)) (by omega)
      rw [es] at go
      rw [← hM]
      refine V_iload dX6_mostTurns_34 rfl ?_
      refine V_iload_n dX6_mostTurns_36 rfl ?_
      refine V_icmp_ge dX6_mostTurns_37 (fun z => absurd z (fun z => absurd ((cle (by repeat (first | with_reducible rfl | with_reducible exact nlit | with_reducible apply nadd | with_reducible apply nmul | with_reducible apply nsub | with_reducible assumption | omega)) (by repeat (first | with_reducible rfl | with_reducible exact nlit | with_reducible apply nadd | with_reducible apply nmul | with_reducible apply nsub | with_reducible assumption | omega)) (by omega) (by omega)).mp z) (by omega))) (fun _ => ?_)
      refine V_aload_n dX6_mostTurns_40 rfl ?_
      refine V_iload_n dX6_mostTurns_41 rfl ?_
      refine V_iload dX6_mostTurns_42 rfl ?_
      refine V_callVw dX6_mostTurns_44 kX6_223 ykX6_turnsInRange (j := 0) (by decide) rfl rfl (tX6_turnsInRange (n := n) (k := k) (by omega) (by omega)) rfl (Nat.le_of_ble_eq_true rfl) ⟨by decide, by decide, by decide, by decide⟩ ?_
      rw [← hw]
      refine V_istore dX6_mostTurns_47 (by decide) (by dsimp only [List.set] <;> rfl) rfl ?_
      refine V_iload dX6_mostTurns_49 rfl ?_
      refine V_bipush (v := (-5)) dX6_mostTurns_51 (by decide) ?_
      by_cases h5 : w = -5
      · refine V_icmp_eq dX6_mostTurns_53 (fun _ => ?_) (fun z => absurd h5 z)
        refine V_iinc dX6_mostTurns_71 rfl (ninc _) (by decide) (by dsimp only [List.set] <;> rfl) ?_
        refine V_goto dX6_mostTurns_74 ?_
        rw [if_neg (fun q => q.1 h5)] at go
        exact go
      · refine V_icmp_eq dX6_mostTurns_53 (fun z => absurd z (fun q => h5 q)) (fun _ => ?_)
        refine V_iload_n dX6_mostTurns_56 rfl ?_
        refine V_bipush (v := (-5)) dX6_mostTurns_57 (by decide) ?_
        by_cases hM5 : M = -5
        · refine V_icmp_eq dX6_mostTurns_59 (fun _ => ?_) (fun z => absurd hM5 z)
          refine V_iload dX6_mostTurns_68 rfl ?_
          refine V_istore_n dX6_mostTurns_70 (by decide) (by dsimp only [List.set] <;> rfl) rfl ?_
          refine V_iinc dX6_mostTurns_71 rfl (ninc _) (by decide) (by dsimp only [List.set] <;> rfl) ?_
          refine V_goto dX6_mostTurns_74 ?_
          rw [if_pos ⟨h5, Or.inl hM5⟩] at go
          exact go
        · refine V_icmp_eq dX6_mostTurns_59 (fun z => absurd z (fun q => hM5 q)) (fun _ => ?_)
          refine V_iload dX6_mostTurns_62 rfl ?_
          refine V_iload_n dX6_mostTurns_64 rfl ?_
          refine V_icmp_ge dX6_mostTurns_65 (fun c65 => ?_) (fun c65 => ?_)
          · refine V_iinc dX6_mostTurns_71 rfl (ninc _) (by decide) (by dsimp only [List.set] <;> rfl) ?_
            refine V_goto dX6_mostTurns_74 ?_
            rw [if_neg (fun q => q.2.elim hM5 (fun y => by rw [i_le] at c65; rw [i_lt] at y; omega))] at go
            exact go
          · refine V_iload dX6_mostTurns_68 rfl ?_
            refine V_istore_n dX6_mostTurns_70 (by decide) (by dsimp only [List.set] <;> rfl) rfl ?_
            refine V_iinc dX6_mostTurns_71 rfl (ninc _) (by decide) (by dsimp only [List.set] <;> rfl) ?_
            refine V_goto dX6_mostTurns_74 ?_
            rw [if_pos ⟨h5, Or.inr (by rw [i_le] at c65; rw [i_lt]; omega)⟩] at go
            exact go
  exact key len 0 _ (by omega)
end CLS
