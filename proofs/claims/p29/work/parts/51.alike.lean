/-! TryLoops: countZeroStrides, bestPair, areAlike, countCommon, alike. -/
def lkG (C : CT) (sl : Nat → Nat) (i j : Nat) : Bool := decide (likC C i j (sl i) (sl j))
def cnC (C : CT) (sl : Nat → Nat) (i j : Nat) : Int32 := cntEq (nT C i) (nT C j) (sl i)
def bpC (C : CT) (sl : Nat → Nat) (tc : Nat) : Int32 × Int32 := bpO (lkG C sl) (cnC C sl) tc 0 tc (-5, -1)
section CLS
variable {G : GT} {l : Launch} {sz a : Nat} {C : CT}
theorem tX6_countZeroStrides {i j s : Nat} (hi : i < 6) (hj : j < 6) (hs : C 8 i = nI s) (hs2 : s ≤ 12) : Ct G l yX6_countZeroStrides cX6_countZeroStrides 6 (some .int) 2 0 0 sz [.ref a, .int (nI i), .int (nI j)] (B G a C) (Rw G a (.int (cntEq (nT C i) (nT C j) s)) C) := by
  refine Ct.of (own := RX6) (mn := "countZeroStrides") (L0 := [some (.ref (a + 0)), some (.int (nI i)), some (.int (nI j)), none, none, none]) (by decide +kernel) rfl rfl rfl (Nat.le_of_ble_eq_true rfl) rfl ?_
  refine V_iconst (v := 0) dX6_countZeroStrides_0 (by decide) ?_
  refine V_istore_n dX6_countZeroStrides_1 (by decide) (by dsimp only [List.set] <;> rfl) rfl ?_
  refine V_aload_n dX6_countZeroStrides_2 rfl ?_
  refine V_bget dX6_countZeroStrides_3 fX6_12 (by decide) rfl (by (try simp only [mset_s, mset_n, pk_us, pk_un, ne_eq, Nat.reduceEqDiff, Nat.reduceAdd, not_false_eq_true, not_true_eq_false]) <;> rfl) ?_
  refine V_bget dX6_countZeroStrides_6 fX6_74 (by decide) rfl (by (try simp only [mset_s, mset_n, pk_us, pk_un, ne_eq, Nat.reduceEqDiff, Nat.reduceAdd, not_false_eq_true, not_true_eq_false]) <;> rfl) ?_
  refine V_iload_n dX6_countZeroStrides_9 rfl ?_
  refine V_callVw dX6_countZeroStrides_10 kX6_118 ykX3_sizeOf (by decide) rfl rfl (tX3_sizeOf (q := 4) stk1.sh3 hi) rfl (Nat.le_of_ble_eq_true rfl) ⟨by decide, by decide, by decide, by decide⟩ ?_
  rw [show C (4 + 4) i = nI s from hs]
  refine V_istore dX6_countZeroStrides_13 (by decide) (by dsimp only [List.set] <;> rfl) rfl ?_
  refine V_iconst (v := 0) dX6_countZeroStrides_15 (by decide) ?_
  refine V_istore dX6_countZeroStrides_16 (by decide) (by dsimp only [List.set] <;> rfl) rfl ?_
  have key : ∀ (m k : Nat), k + m = s → V G l RX6 "countZeroStrides" cX6_countZeroStrides 6 (some .int) (rmd 2 0 0) E0 (Qm G (Rw G a (.int (cntEq (nT C i) (nT C j) s)) C) sz 0 0) sz 0 0 18 [some (.ref (a + 0)), some (.int (nI i)), some (.int (nI j)), some (.int (cntEq (nT C i) (nT C j) k)), some (.int (nI s)), some (.int (nI k))] [] (B G a C) := by
    intro m
    induction m with
    | zero =>
      intro k hk
      obtain rfl : k = s := by omega
      refine V_iload dX6_countZeroStrides_18 rfl ?_
      refine V_iload dX6_countZeroStrides_20 rfl ?_
      refine V_icmp_ge dX6_countZeroStrides_22 (fun _ => ?_) (fun z => absurd ((cle (by repeat (first | with_reducible rfl | with_reducible exact nlit | with_reducible apply nadd | with_reducible apply nmul | with_reducible apply nsub | with_reducible assumption | omega)) (by repeat (first | with_reducible rfl | with_reducible exact nlit | with_reducible apply nadd | with_reducible apply nmul | with_reducible apply nsub | with_reducible assumption | omega)) (by omega) (by omega)).mpr (by omega)) z)
      refine V_iload_n dX6_countZeroStrides_63 rfl ?_
      refine V_iret dX6_countZeroStrides_64 rfl rfl rfl ?_
      exact Rw_i rfl rfl
    | succ m ih =>
      intro k hk
      have go := ih (k + 1) (by omega)
      rw [cntEq] at go
      refine V_iload dX6_countZeroStrides_18 rfl ?_
      refine V_iload dX6_countZeroStrides_20 rfl ?_
      refine V_icmp_ge dX6_countZeroStrides_22 (fun z => absurd z (fun z => absurd ((cle (by repeat (first | with_reducible rfl | with_reducible exact nlit | with_reducible apply nadd | with_reducible apply nmul | with_reducible apply nsub | with_reducible assumption | omega)) (by repeat (first | with_reducible rfl | with_reducible exact nlit | with_reducible apply nadd | with_reducible apply nmul | with_reducible apply nsub | with_reducible assumption | omega)) (by omega) (by omega)).mp z) (by omega))) (fun _ => ?_)
      refine V_aload_n dX6_countZeroStrides_25 rfl ?_
      refine V_bget dX6_countZeroStrides_26 fX6_12 (by decide) rfl (by (try simp only [mset_s, mset_n, pk_us, pk_un, ne_eq, Nat.reduceEqDiff, Nat.reduceAdd, not_false_eq_true, not_true_eq_false]) <;> rfl) ?_
      refine V_bget dX6_countZeroStrides_29 fX6_74 (by decide) rfl (by (try simp only [mset_s, mset_n, pk_us, pk_un, ne_eq, Nat.reduceEqDiff, Nat.reduceAdd, not_false_eq_true, not_true_eq_false]) <;> rfl) ?_
      refine V_iload_n dX6_countZeroStrides_32 rfl ?_
      refine V_iload dX6_countZeroStrides_33 rfl ?_
      refine V_callVw dX6_countZeroStrides_35 kX6_161 ykX3_numberAt (by decide) rfl rfl (tX3_numberAt (q := 4) (W := 12) stk1.sh3 hi (by omega)) rfl (Nat.le_of_ble_eq_true rfl) ⟨by decide, by decide, by decide, by decide⟩ ?_
      refine V_aload_n dX6_countZeroStrides_38 rfl ?_
      refine V_bget dX6_countZeroStrides_39 fX6_12 (by decide) rfl (by (try simp only [mset_s, mset_n, pk_us, pk_un, ne_eq, Nat.reduceEqDiff, Nat.reduceAdd, not_false_eq_true, not_true_eq_false]) <;> rfl) ?_
      refine V_bget dX6_countZeroStrides_42 fX6_74 (by decide) rfl (by (try simp only [mset_s, mset_n, pk_us, pk_un, ne_eq, Nat.reduceEqDiff, Nat.reduceAdd, not_false_eq_true, not_true_eq_false]) <;> rfl) ?_
      refine V_iload_n dX6_countZeroStrides_45 rfl ?_
      refine V_iload dX6_countZeroStrides_46 rfl ?_
      refine V_callVw dX6_countZeroStrides_48 kX6_161 ykX3_numberAt (by decide) rfl rfl (tX3_numberAt (q := 4) (W := 12) stk1.sh3 hj (by omega)) rfl (Nat.le_of_ble_eq_true rfl) ⟨by decide, by decide, by decide, by decide⟩ ?_
      refine V_icmp_ne dX6_countZeroStrides_51 (fun c51 => ?_) (fun c51 => ?_)
      · refine V_iinc dX6_countZeroStrides_57 rfl (ninc _) (by decide) (by dsimp only [List.set] <;> rfl) ?_
        refine V_goto dX6_countZeroStrides_60 ?_
        rw [bI_f c51, i_add0] at go
        exact go
      · have c51' := c51
        refine V_iinc dX6_countZeroStrides_54 rfl rfl (by decide) (by dsimp only [List.set] <;> rfl) ?_
        refine V_iinc dX6_countZeroStrides_57 rfl (ninc _) (by decide) (by dsimp only [List.set] <;> rfl) ?_
        refine V_goto dX6_countZeroStrides_60 ?_
        rw [bI_t c51'] at go
        exact go
  exact key s 0 (by omega)
theorem tX6_bestPair_o (x1 : Int32) (hx : ¬ (0 ≤ x1 ∧ x1 ≤ 1)) : Ct G l yX6_bestPair cX6_bestPair 8 (some .int) 4 0 0 sz [.ref a, .int x1] (B G a C) (Rw G a (.int (-2)) C) := by
  refine Ct.of (own := RX6) (mn := "bestPair") (L0 := [some (.ref (a + 0)), some (.int x1), none, none, none, none, none, none]) (by decide +kernel) rfl rfl rfl (Nat.le_of_ble_eq_true rfl) rfl ?_
  refine V_iload_n dX6_bestPair_0 rfl ?_
  refine V_if_lt dX6_bestPair_1 (fun c1 => ?_) (fun c1 => ?_)
  · refine V_bipush (v := (-2)) dX6_bestPair_9 (by decide) ?_
    refine V_iret dX6_bestPair_11 rfl rfl rfl ?_
    exact Rw_i rfl rfl
  · refine V_iload_n dX6_bestPair_4 rfl ?_
    refine V_iconst (v := 1) dX6_bestPair_5 (by decide) ?_
    refine V_icmp_le dX6_bestPair_6 (fun c6 => ?_) (fun c6 => ?_)
    · exact absurd (by rw [i_le, i_le]; rw [i_lt] at c1; rw [i_le] at c6; exact ⟨by omega, c6⟩) hx
    · refine V_bipush (v := (-2)) dX6_bestPair_9 (by decide) ?_
      refine V_iret dX6_bestPair_11 rfl rfl rfl ?_
      exact Rw_i rfl rfl
set_option maxHeartbeats 4000000 in
theorem tX6_bestPair {tc : Nat} {sl : Nat → Nat} (x1 : Int32) (hx : 0 ≤ x1 ∧ x1 ≤ 1) (h4 : C 4 0 = nI tc) (htc : tc ≤ 6) (hsl : ∀ i, i < tc → C 8 i = nI (sl i) ∧ sl i ≤ 12) : Ct G l yX6_bestPair cX6_bestPair 8 (some .int) 4 0 0 sz [.ref a, .int x1] (B G a C) (Rw G a (.int (if x1 = 0 then (bpC C sl tc).1 else if (bpC C sl tc).1 = -5 then (bpC C sl tc).1 else (bpC C sl tc).2)) C) := by
  have hx1 := hx.1
  have hx2 := hx.2
  rw [i_le] at hx1 hx2
  have z0 : (0 : Int32).toInt = 0 := rfl
  have zm : (-1 : Int32).toInt = -1 := rfl
  refine Ct.of (own := RX6) (mn := "bestPair") (L0 := [some (.ref (a + 0)), some (.int x1), none, none, none, none, none, none]) (by decide +kernel) rfl rfl rfl (Nat.le_of_ble_eq_true rfl) rfl ?_
  refine V_iload_n dX6_bestPair_0 rfl ?_
  refine V_if_lt dX6_bestPair_1 (fun z => absurd z (fun z => by rw [i_lt] at z; omega)) (fun _ => ?_)
  refine V_iload_n dX6_bestPair_4 rfl ?_
  refine V_iconst (v := 1) dX6_bestPair_5 (by decide) ?_
  refine V_icmp_le dX6_bestPair_6 (fun _ => ?_) (fun z => absurd (by rw [i_le]; exact hx2) z)
  refine V_bipush (v := (-5)) dX6_bestPair_12 (by decide) ?_
  refine V_istore_n dX6_bestPair_14 (by decide) (by dsimp only [List.set] <;> rfl) rfl ?_
  refine V_iconst (v := (-1)) dX6_bestPair_15 (by decide) ?_
  refine V_istore_n dX6_bestPair_16 (by decide) (by dsimp only [List.set] <;> rfl) rfl ?_
  refine V_aload_n dX6_bestPair_17 rfl ?_
  refine V_bget dX6_bestPair_18 fX6_12 (by decide) rfl (by (try simp only [mset_s, mset_n, pk_us, pk_un, ne_eq, Nat.reduceEqDiff, Nat.reduceAdd, not_false_eq_true, not_true_eq_false]) <;> rfl) ?_
  refine V_bget dX6_bestPair_21 fX6_74 (by decide) rfl (by (try simp only [mset_s, mset_n, pk_us, pk_un, ne_eq, Nat.reduceEqDiff, Nat.reduceAdd, not_false_eq_true, not_true_eq_false]) <;> rfl) ?_
  refine V_bget dX6_bestPair_24 fX6_78 (by decide) rfl (by (try simp only [mset_s, mset_n, pk_us, pk_un, ne_eq, Nat.reduceEqDiff, Nat.reduceAdd, not_false_eq_true, not_true_eq_false]) <;> rfl) ?_
  rw [h4]
  refine V_istore dX6_bestPair_27 (by decide) (by dsimp only [List.set] <;> rfl) rfl ?_
  refine V_iconst (v := 0) dX6_bestPair_29 (by decide) ?_
  refine V_istore dX6_bestPair_30 (by decide) (by dsimp only [List.set] <;> rfl) rfl ?_
  have key : ∀ (m i : Nat) (s : Int32 × Int32) (L6 L7 : Option Value), i + m = tc → -1 ≤ s.2.toInt → bpO (lkG C sl) (cnC C sl) tc i m s = bpC C sl tc → V G l RX6 "bestPair" cX6_bestPair 8 (some .int) (rmd 4 0 0) E0 (Qm G (Rw G a (.int (if x1 = 0 then (bpC C sl tc).1 else if (bpC C sl tc).1 = -5 then (bpC C sl tc).1 else (bpC C sl tc).2)) C) sz 0 0) sz 0 0 32 [some (.ref (a + 0)), some (.int x1), some (.int s.1), some (.int s.2), some (.int (nI tc)), some (.int (nI i)), L6, L7] [] (B G a C) := by
    intro m
    induction m with
    | zero =>
      intro i s L6 L7 hk hm hs
      obtain rfl : i = tc := by omega
      rw [bpO] at hs
      refine V_iload dX6_bestPair_32 rfl ?_
      refine V_iload dX6_bestPair_34 rfl ?_
      refine V_icmp_ge dX6_bestPair_36 (fun _ => ?_) (fun z => absurd ((cle (by repeat (first | with_reducible rfl | with_reducible exact nlit | with_reducible apply nadd | with_reducible apply nmul | with_reducible apply nsub | with_reducible assumption | omega)) (by repeat (first | with_reducible rfl | with_reducible exact nlit | with_reducible apply nadd | with_reducible apply nmul | with_reducible apply nsub | with_reducible assumption | omega)) (by omega) (by omega)).mpr (by omega)) z)
      refine V_iload_n dX6_bestPair_107 rfl ?_
      by_cases h0 : x1 = 0
      · refine V_if_eq dX6_bestPair_108 (fun _ => ?_) (fun z => absurd h0 z)
        refine V_iload_n dX6_bestPair_117 rfl ?_
        refine V_goto dX6_bestPair_118 ?_
        refine V_iret dX6_bestPair_122 rfl rfl rfl ?_
        exact Rw_i (by rw [if_pos h0, hs]) rfl
      · refine V_if_eq dX6_bestPair_108 (fun z => absurd z h0) (fun _ => ?_)
        refine V_iload_n dX6_bestPair_111 rfl ?_
        refine V_bipush (v := (-5)) dX6_bestPair_112 (by decide) ?_
        by_cases h5 : s.1 = -5
        · refine V_icmp_ne dX6_bestPair_114 (fun z => absurd z (fun q => q h5)) (fun _ => ?_)
          refine V_iload_n dX6_bestPair_117 rfl ?_
          refine V_goto dX6_bestPair_118 ?_
          refine V_iret dX6_bestPair_122 rfl rfl rfl ?_
          exact Rw_i (by rw [if_neg h0, ← hs, if_pos h5]) rfl
        · refine V_icmp_ne dX6_bestPair_114 (fun _ => ?_) (fun z => absurd z h5)
          refine V_iload_n dX6_bestPair_121 rfl ?_
          refine V_iret dX6_bestPair_122 rfl rfl rfl ?_
          exact Rw_i (by rw [if_neg h0, ← hs, if_neg h5]) rfl
    | succ m ih =>
      intro i s L6 L7 hk hm hs
      rw [bpO] at hs
      refine V_iload dX6_bestPair_32 rfl ?_
      refine V_iload dX6_bestPair_34 rfl ?_
      refine V_icmp_ge dX6_bestPair_36 (fun z => absurd z (fun z => absurd ((cle (by repeat (first | with_reducible rfl | with_reducible exact nlit | with_reducible apply nadd | with_reducible apply nmul | with_reducible apply nsub | with_reducible assumption | omega)) (by repeat (first | with_reducible rfl | with_reducible exact nlit | with_reducible apply nadd | with_reducible apply nmul | with_reducible apply nsub | with_reducible assumption | omega)) (by omega) (by omega)).mp z) (by omega))) (fun _ => ?_)
      refine V_iload dX6_bestPair_39 rfl ?_
      refine V_iconst (v := 1) dX6_bestPair_41 (by decide) ?_
      refine V_iadd dX6_bestPair_42 ?_
      rw [show nI i + 1 = nI (i + 1) from nI_1 i]
      refine V_istore dX6_bestPair_43 (by decide) (by dsimp only [List.set] <;> rfl) rfl ?_
      have key2 : ∀ (n j : Nat) (s : Int32 × Int32) (L7 : Option Value), j + n = tc → i < j → -1 ≤ s.2.toInt → bpO (lkG C sl) (cnC C sl) tc (i + 1) m (bpI (lkG C sl) (cnC C sl) i j n s) = bpC C sl tc → V G l RX6 "bestPair" cX6_bestPair 8 (some .int) (rmd 4 0 0) E0 (Qm G (Rw G a (.int (if x1 = 0 then (bpC C sl tc).1 else if (bpC C sl tc).1 = -5 then (bpC C sl tc).1 else (bpC C sl tc).2)) C) sz 0 0) sz 0 0 45 [some (.ref (a + 0)), some (.int x1), some (.int s.1), some (.int s.2), some (.int (nI tc)), some (.int (nI i)), some (.int (nI j)), L7] [] (B G a C) := by
        intro n
        induction n with
        | zero =>
          intro j s L7 hj hij hm hs
          obtain rfl : j = tc := by omega
          rw [bpI] at hs
          refine V_iload dX6_bestPair_45 rfl ?_
          refine V_iload dX6_bestPair_47 rfl ?_
          refine V_icmp_ge dX6_bestPair_49 (fun _ => ?_) (fun z => absurd ((cle (by repeat (first | with_reducible rfl | with_reducible exact nlit | with_reducible apply nadd | with_reducible apply nmul | with_reducible apply nsub | with_reducible assumption | omega)) (by repeat (first | with_reducible rfl | with_reducible exact nlit | with_reducible apply nadd | with_reducible apply nmul | with_reducible apply nsub | with_reducible assumption | omega)) (by omega) (by omega)).mpr (by omega)) z)
          refine V_iinc dX6_bestPair_101 rfl (ninc _) (by decide) (by dsimp only [List.set] <;> rfl) ?_
          refine V_goto dX6_bestPair_104 ?_
          exact ih (i + 1) s _ _ (by omega) hm hs
        | succ n ih2 =>
          intro j s L7 hj hij hm hs
          rw [bpI] at hs
          have si := hsl i (by omega)
          have sj := hsl j (by omega)
          refine V_iload dX6_bestPair_45 rfl ?_
          refine V_iload dX6_bestPair_47 rfl ?_
          refine V_icmp_ge dX6_bestPair_49 (fun z => absurd z (fun z => absurd ((cle (by repeat (first | with_reducible rfl | with_reducible exact nlit | with_reducible apply nadd | with_reducible apply nmul | with_reducible apply nsub | with_reducible assumption | omega)) (by repeat (first | with_reducible rfl | with_reducible exact nlit | with_reducible apply nadd | with_reducible apply nmul | with_reducible apply nsub | with_reducible assumption | omega)) (by omega) (by omega)).mp z) (by omega))) (fun _ => ?_)
          refine V_aload_n dX6_bestPair_52 rfl ?_
          refine V_iload dX6_bestPair_53 rfl ?_
          refine V_iload dX6_bestPair_55 rfl ?_
          refine V_callVw dX6_bestPair_57 kX6_112 ykX6_canGeneralise (j := 0) (by decide) rfl rfl (tX6_canGeneralise (i := i) (j := j) (si := sl i) (sj := sl j) (by omega) (by omega) si.1 sj.1 si.2 sj.2) rfl (Nat.le_of_ble_eq_true rfl) ⟨by decide, by decide, by decide, by decide⟩ ?_
          have no : ¬ (lkG C sl i j = true ∧ s.2 < cnC C sl i j) → ∀ L7, V G l RX6 "bestPair" cX6_bestPair 8 (some .int) (rmd 4 0 0) E0 (Qm G (Rw G a (.int (if x1 = 0 then (bpC C sl tc).1 else if (bpC C sl tc).1 = -5 then (bpC C sl tc).1 else (bpC C sl tc).2)) C) sz 0 0) sz 0 0 95 [some (.ref (a + 0)), some (.int x1), some (.int s.1), some (.int s.2), some (.int (nI tc)), some (.int (nI i)), some (.int (nI j)), L7] [] (B G a C) := by
            intro hy L7
            refine V_iinc dX6_bestPair_95 rfl (ninc _) (by decide) (by dsimp only [List.set] <;> rfl) ?_
            refine V_goto dX6_bestPair_98 ?_
            exact ih2 (j + 1) s _ (by omega) (by omega) hm (by rw [← hs, bpS, if_neg hy])
          by_cases hu : likC C i j (sl i) (sl j)
          · refine V_if_eq dX6_bestPair_60 (fun z => absurd z (bI_ne0.mpr ⟨by omega, hu⟩)) (fun _ => ?_)
            refine V_aload_n dX6_bestPair_63 rfl ?_
            refine V_iload dX6_bestPair_64 rfl ?_
            refine V_iload dX6_bestPair_66 rfl ?_
            refine V_callVw dX6_bestPair_68 kX6_216 ykX6_countZeroStrides (j := 0) (by decide) rfl rfl (tX6_countZeroStrides (i := i) (j := j) (s := sl i) (by omega) (by omega) si.1 si.2) rfl (Nat.le_of_ble_eq_true rfl) ⟨by decide, by decide, by decide, by decide⟩ ?_
            refine V_goto dX6_bestPair_71 ?_
            refine V_istore dX6_bestPair_75 (by decide) (by dsimp only [List.set] <;> rfl) rfl ?_
            refine V_iload dX6_bestPair_77 rfl ?_
            refine V_iload_n dX6_bestPair_79 rfl ?_
            refine V_icmp_le dX6_bestPair_80 (fun c80 => ?_) (fun c80 => ?_)
            · exact no (fun q => by have := q.2; unfold cnC at this; rw [i_lt] at this; rw [i_le] at c80; omega) _
            · refine V_iload dX6_bestPair_83 rfl ?_
              refine V_istore_n dX6_bestPair_85 (by decide) (by dsimp only [List.set] <;> rfl) rfl ?_
              refine V_bipush (v := 10) dX6_bestPair_86 (by decide) ?_
              refine V_iload dX6_bestPair_88 rfl ?_
              refine V_imul dX6_bestPair_90 ?_
              refine V_iload dX6_bestPair_91 rfl ?_
              refine V_iadd dX6_bestPair_93 ?_
              refine V_istore_n dX6_bestPair_94 (by decide) (by dsimp only [List.set] <;> rfl) rfl ?_
              refine V_iinc dX6_bestPair_95 rfl (ninc _) (by decide) (by dsimp only [List.set] <;> rfl) ?_
              refine V_goto dX6_bestPair_98 ?_
              have hlt : s.2 < cnC C sl i j := by unfold cnC; rw [i_lt]; rw [i_le] at c80; omega
              exact ih2 (j + 1) (10 * nI i + nI j, cnC C sl i j) _ (by omega) (by omega) (by rw [i_lt] at hlt; show -1 ≤ (cnC C sl i j).toInt; omega) (by rw [← hs, bpS, if_pos ⟨decide_eq_true hu, hlt⟩])
          · refine V_if_eq dX6_bestPair_60 (fun _ => ?_) (fun z => absurd (bI_f (fun q => hu q.2)) z)
            refine V_iconst (v := (-1)) dX6_bestPair_74 (by decide) ?_
            refine V_istore dX6_bestPair_75 (by decide) (by dsimp only [List.set] <;> rfl) rfl ?_
            refine V_iload dX6_bestPair_77 rfl ?_
            refine V_iload_n dX6_bestPair_79 rfl ?_
            refine V_icmp_le dX6_bestPair_80 (fun _ => ?_) (fun z => absurd (by rw [i_le]; omega) z)
            exact no (fun q => hu (of_decide_eq_true q.1)) _
      exact key2 (tc - (i + 1)) (i + 1) s _ (by omega) (by omega) hm hs
  exact key tc 0 (-5, -1) _ _ (by omega) (by decide) rfl
def eqC (C : CT) (i j : Nat) (w : Int32) (p q : Nat) : Bool := decide (vT C i p = vT C j q ∧ (w = 0 ∨ nT C i p = nT C j q))
theorem tX6_areAlike {i j p q : Nat} {w : Int32} (hi : i < 6) (hj : j < 6) (hp : p < 12) (hq : q < 12) : Ct G l yX6_areAlike cX6_areAlike 7 (some .boolean) 2 0 0 sz [.ref a, .int (nI i), .int (nI p), .int (nI j), .int (nI q), .int w] (B G a C) (Rw G a (.int (bI (eqC C i j w p q = true))) C) := by
  refine Ct.of (own := RX6) (mn := "areAlike") (L0 := [some (.ref (a + 0)), some (.int (nI i)), some (.int (nI p)), some (.int (nI j)), some (.int (nI q)), some (.int w), none]) (by decide +kernel) rfl rfl rfl (Nat.le_of_ble_eq_true rfl) rfl ?_
  refine V_aload_n dX6_areAlike_0 rfl ?_
  refine V_bget dX6_areAlike_1 fX6_12 (by decide) rfl (by (try simp only [mset_s, mset_n, pk_us, pk_un, ne_eq, Nat.reduceEqDiff, Nat.reduceAdd, not_false_eq_true, not_true_eq_false]) <;> rfl) ?_
  refine V_bget dX6_areAlike_4 fX6_74 (by decide) rfl (by (try simp only [mset_s, mset_n, pk_us, pk_un, ne_eq, Nat.reduceEqDiff, Nat.reduceAdd, not_false_eq_true, not_true_eq_false]) <;> rfl) ?_
  refine V_astore dX6_areAlike_7 (by decide) (by dsimp only [List.set] <;> rfl) rfl ?_
  refine V_aload dX6_areAlike_9 rfl ?_
  refine V_iload_n dX6_areAlike_11 rfl ?_
  refine V_iload_n dX6_areAlike_12 rfl ?_
  refine V_callVw dX6_areAlike_13 kX6_157 ykX3_verbAt (by decide) rfl rfl (tX3_verbAt (q := 4) (W := 12) stk1.sh3 hi hp) rfl (Nat.le_of_ble_eq_true rfl) ⟨by decide, by decide, by decide, by decide⟩ ?_
  refine V_aload dX6_areAlike_16 rfl ?_
  refine V_iload_n dX6_areAlike_18 rfl ?_
  refine V_iload dX6_areAlike_19 rfl ?_
  refine V_callVw dX6_areAlike_21 kX6_157 ykX3_verbAt (by decide) rfl rfl (tX3_verbAt (q := 4) (W := 12) stk1.sh3 hj hq) rfl (Nat.le_of_ble_eq_true rfl) ⟨by decide, by decide, by decide, by decide⟩ ?_
  refine V_icmp_eq dX6_areAlike_24 (fun c24 => ?_) (fun c24 => ?_)
  · refine V_iload dX6_areAlike_29 rfl ?_
    by_cases hw : w = 0
    · refine V_if_eq dX6_areAlike_31 (fun _ => ?_) (fun z => absurd hw z)
      refine V_iconst (v := 1) dX6_areAlike_52 (by decide) ?_
      refine V_goto dX6_areAlike_53 ?_
      refine V_zret dX6_areAlike_57 rfl (by first | rfl | exact bI_nar) rfl rfl ?_
      exact Rw_i (bI_t (decide_eq_true ⟨c24, Or.inl hw⟩)).symm rfl
    · refine V_if_eq dX6_areAlike_31 (fun z => absurd z hw) (fun _ => ?_)
      refine V_aload dX6_areAlike_34 rfl ?_
      refine V_iload_n dX6_areAlike_36 rfl ?_
      refine V_iload_n dX6_areAlike_37 rfl ?_
      refine V_callVw dX6_areAlike_38 kX6_161 ykX3_numberAt (by decide) rfl rfl (tX3_numberAt (q := 4) (W := 12) stk1.sh3 hi hp) rfl (Nat.le_of_ble_eq_true rfl) ⟨by decide, by decide, by decide, by decide⟩ ?_
      refine V_aload dX6_areAlike_41 rfl ?_
      refine V_iload_n dX6_areAlike_43 rfl ?_
      refine V_iload dX6_areAlike_44 rfl ?_
      refine V_callVw dX6_areAlike_46 kX6_161 ykX3_numberAt (by decide) rfl rfl (tX3_numberAt (q := 4) (W := 12) stk1.sh3 hj hq) rfl (Nat.le_of_ble_eq_true rfl) ⟨by decide, by decide, by decide, by decide⟩ ?_
      refine V_icmp_ne dX6_areAlike_49 (fun c49 => ?_) (fun c49 => ?_)
      · refine V_iconst (v := 0) dX6_areAlike_56 (by decide) ?_
        refine V_zret dX6_areAlike_57 rfl (by first | rfl | exact bI_nar) rfl rfl ?_
        exact Rw_i (bI_f (fun z => (of_decide_eq_true z).2.elim hw c49)).symm rfl
      · refine V_iconst (v := 1) dX6_areAlike_52 (by decide) ?_
        refine V_goto dX6_areAlike_53 ?_
        refine V_zret dX6_areAlike_57 rfl (by first | rfl | exact bI_nar) rfl rfl ?_
        exact Rw_i (bI_t (decide_eq_true ⟨c24, Or.inr c49⟩)).symm rfl
  · refine V_iconst (v := 0) dX6_areAlike_27 (by decide) ?_
    refine V_zret dX6_areAlike_28 rfl (by first | rfl | exact bI_nar) rfl rfl ?_
    exact Rw_i (bI_f (fun z => c24 (of_decide_eq_true z).1)).symm rfl
theorem tX6_alike_o {tc : Nat} (x1 x2 x3 : Int32) (h4 : C 4 0 = nI tc) (htc : tc ≤ 6) (hx : ¬ (isIx x1 tc ∧ isIx x2 tc)) : Ct G l yX6_alike cX6_alike 4 (some .int) 4 0 0 sz [.ref a, .int x1, .int x2, .int x3] (B G a C) (Rw G a (.int (-1)) C) := by
  refine Ct.of (own := RX6) (mn := "alike") (L0 := [some (.ref (a + 0)), some (.int x1), some (.int x2), some (.int x3)]) (by decide +kernel) rfl rfl rfl (Nat.le_of_ble_eq_true rfl) rfl ?_
  refine V_aload_n dX6_alike_0 rfl ?_
  refine V_bget dX6_alike_1 fX6_12 (by decide) rfl (by (try simp only [mset_s, mset_n, pk_us, pk_un, ne_eq, Nat.reduceEqDiff, Nat.reduceAdd, not_false_eq_true, not_true_eq_false]) <;> rfl) ?_
  refine V_bget dX6_alike_4 fX6_74 (by decide) rfl (by (try simp only [mset_s, mset_n, pk_us, pk_un, ne_eq, Nat.reduceEqDiff, Nat.reduceAdd, not_false_eq_true, not_true_eq_false]) <;> rfl) ?_
  refine V_iload_n dX6_alike_7 rfl ?_
  refine V_callVw dX6_alike_8 kX6_105 ykX3_holds (by decide) rfl rfl (tX3_holds (q := 4) (cnt := tc) stk1.sh3 h4 (by omega)) rfl (Nat.le_of_ble_eq_true rfl) ⟨by decide, by decide, by decide, by decide⟩ ?_
  by_cases h1 : isIx x1 tc
  · refine V_if_eq dX6_alike_11 (fun z => absurd z (bI_ne0.mpr h1)) (fun _ => ?_)
    refine V_aload_n dX6_alike_14 rfl ?_
    refine V_bget dX6_alike_15 fX6_12 (by decide) rfl (by (try simp only [mset_s, mset_n, pk_us, pk_un, ne_eq, Nat.reduceEqDiff, Nat.reduceAdd, not_false_eq_true, not_true_eq_false]) <;> rfl) ?_
    refine V_bget dX6_alike_18 fX6_74 (by decide) rfl (by (try simp only [mset_s, mset_n, pk_us, pk_un, ne_eq, Nat.reduceEqDiff, Nat.reduceAdd, not_false_eq_true, not_true_eq_false]) <;> rfl) ?_
    refine V_iload_n dX6_alike_21 rfl ?_
    refine V_callVw dX6_alike_22 kX6_105 ykX3_holds (by decide) rfl rfl (tX3_holds (q := 4) (cnt := tc) stk1.sh3 h4 (by omega)) rfl (Nat.le_of_ble_eq_true rfl) ⟨by decide, by decide, by decide, by decide⟩ ?_
    refine V_if_ne dX6_alike_25 (fun z => absurd z (fun z => z (bI_f (fun w => hx ⟨h1, w⟩)))) (fun _ => ?_)
    refine V_iconst (v := (-1)) dX6_alike_28 (by decide) ?_
    refine V_iret dX6_alike_29 rfl rfl rfl ?_
    exact Rw_i rfl rfl
  · refine V_if_eq dX6_alike_11 (fun _ => ?_) (fun z => absurd (bI_f h1) z)
    refine V_iconst (v := (-1)) dX6_alike_28 (by decide) ?_
    refine V_iret dX6_alike_29 rfl rfl rfl ?_
    exact Rw_i rfl rfl
theorem tX6_alike_r {tc i j : Nat} (x3 : Int32) (h4 : C 4 0 = nI tc) (htc : tc ≤ 6) (hi : i < tc) (hj : j < tc) (hx : ¬ (0 ≤ x3 ∧ x3 ≤ 1)) : Ct G l yX6_alike cX6_alike 4 (some .int) 4 0 0 sz [.ref a, .int (nI i), .int (nI j), .int x3] (B G a C) (Rw G a (.int (-2)) C) := by
  refine Ct.of (own := RX6) (mn := "alike") (L0 := [some (.ref (a + 0)), some (.int (nI i)), some (.int (nI j)), some (.int x3)]) (by decide +kernel) rfl rfl rfl (Nat.le_of_ble_eq_true rfl) rfl ?_
  refine V_aload_n dX6_alike_0 rfl ?_
  refine V_bget dX6_alike_1 fX6_12 (by decide) rfl (by (try simp only [mset_s, mset_n, pk_us, pk_un, ne_eq, Nat.reduceEqDiff, Nat.reduceAdd, not_false_eq_true, not_true_eq_false]) <;> rfl) ?_
  refine V_bget dX6_alike_4 fX6_74 (by decide) rfl (by (try simp only [mset_s, mset_n, pk_us, pk_un, ne_eq, Nat.reduceEqDiff, Nat.reduceAdd, not_false_eq_true, not_true_eq_false]) <;> rfl) ?_
  refine V_iload_n dX6_alike_7 rfl ?_
  refine V_callVw dX6_alike_8 kX6_105 ykX3_holds (by decide) rfl rfl (tX3_holds (q := 4) (cnt := tc) stk1.sh3 h4 (by omega)) rfl (Nat.le_of_ble_eq_true rfl) ⟨by decide, by decide, by decide, by decide⟩ ?_
  refine V_if_eq dX6_alike_11 (fun z => absurd z (bI_ne0.mpr (isIx_nI hi (by omega)))) (fun _ => ?_)
  refine V_aload_n dX6_alike_14 rfl ?_
  refine V_bget dX6_alike_15 fX6_12 (by decide) rfl (by (try simp only [mset_s, mset_n, pk_us, pk_un, ne_eq, Nat.reduceEqDiff, Nat.reduceAdd, not_false_eq_true, not_true_eq_false]) <;> rfl) ?_
  refine V_bget dX6_alike_18 fX6_74 (by decide) rfl (by (try simp only [mset_s, mset_n, pk_us, pk_un, ne_eq, Nat.reduceEqDiff, Nat.reduceAdd, not_false_eq_true, not_true_eq_false]) <;> rfl) ?_
  refine V_iload_n dX6_alike_21 rfl ?_
  refine V_callVw dX6_alike_22 kX6_105 ykX3_holds (by decide) rfl rfl (tX3_holds (q := 4) (cnt := tc) stk1.sh3 h4 (by omega)) rfl (Nat.le_of_ble_eq_true rfl) ⟨by decide, by decide, by decide, by decide⟩ ?_
  refine V_if_ne dX6_alike_25 (fun _ => ?_) (fun z => absurd z ((bI_ne0.mpr (isIx_nI hj (by omega)))))
  refine V_iload_n dX6_alike_30 rfl ?_
  refine V_if_lt dX6_alike_31 (fun c31 => ?_) (fun c31 => ?_)
  · refine V_bipush (v := (-2)) dX6_alike_39 (by decide) ?_
    refine V_iret dX6_alike_41 rfl rfl rfl ?_
    exact Rw_i rfl rfl
  · refine V_iload_n dX6_alike_34 rfl ?_
    refine V_iconst (v := 1) dX6_alike_35 (by decide) ?_
    refine V_icmp_le dX6_alike_36 (fun c36 => ?_) (fun c36 => ?_)
    · exact absurd (by rw [i_le, i_le]; rw [i_lt] at c31; rw [i_le] at c36; exact ⟨by omega, c36⟩) hx
    · refine V_bipush (v := (-2)) dX6_alike_39 (by decide) ?_
      refine V_iret dX6_alike_41 rfl rfl rfl ?_
      exact Rw_i rfl rfl
theorem lcsF_0 {e : Nat → Nat → Bool} (p : Nat) : lcsF e p 0 = 0 := by cases p <;> rfl
set_option maxHeartbeats 4000000 in
theorem tX6_countCommon {i j li lj : Nat} {w : Int32} (hi : i < 6) (hj : j < 6) (hli : C 8 i = nI li) (hlj : C 8 j = nI lj) (h1 : li ≤ 12) (h2 : lj ≤ 12) : Ct G l yX6_countCommon cX6_countCommon 10 (some .int) 3 0 0 sz [.ref a, .int (nI i), .int (nI j), .int w] (B G a C) (Rs G a (.int (lcsF (eqC C i j w) li lj)) C) := by
  obtain ⟨e, he⟩ : ∃ e, e = eqC C i j w := ⟨_, rfl⟩
  refine Ct.of (own := RX6) (mn := "countCommon") (L0 := [some (.ref (a + 0)), some (.int (nI i)), some (.int (nI j)), some (.int w), none, none, none, none, none, none]) (by decide +kernel) rfl rfl rfl (Nat.le_of_ble_eq_true rfl) rfl ?_
  refine V_aload_n dX6_countCommon_0 rfl ?_
  refine V_bget dX6_countCommon_1 fX6_12 (by decide) rfl (by (try simp only [mset_s, mset_n, pk_us, pk_un, ne_eq, Nat.reduceEqDiff, Nat.reduceAdd, not_false_eq_true, not_true_eq_false]) <;> rfl) ?_
  refine V_bget dX6_countCommon_4 fX6_74 (by decide) rfl (by (try simp only [mset_s, mset_n, pk_us, pk_un, ne_eq, Nat.reduceEqDiff, Nat.reduceAdd, not_false_eq_true, not_true_eq_false]) <;> rfl) ?_
  refine V_iload_n dX6_countCommon_7 rfl ?_
  refine V_callVw dX6_countCommon_8 kX6_118 ykX3_sizeOf (by decide) rfl rfl (tX3_sizeOf (q := 4) stk1.sh3 hj) rfl (Nat.le_of_ble_eq_true rfl) ⟨by decide, by decide, by decide, by decide⟩ ?_
  rw [show C (4 + 4) j = nI lj from hlj]
  refine V_aload_n dX6_countCommon_11 rfl ?_
  refine V_bget dX6_countCommon_12 fX6_47 (by decide) rfl (by (try simp only [mset_s, mset_n, pk_us, pk_un, ne_eq, Nat.reduceEqDiff, Nat.reduceAdd, not_false_eq_true, not_true_eq_false]) <;> rfl) ?_
  refine V_balen (v := nI _) dX6_countCommon_15 (by decide) rfl rfl ?_
  refine V_iconst (v := 1) dX6_countCommon_16 (by decide) ?_
  refine V_isub dX6_countCommon_17 ?_
  refine V_min dX6_countCommon_18 gmax_X6_255 gminS gmaxI gminC (Nat.le_of_ble_eq_true rfl) (Nat.le_of_ble_eq_true rfl) (Nat.le_of_ble_eq_true rfl) (Nat.le_of_ble_eq_true rfl) ?_
  rw [show nI 13 - 1 = nI 12 from rfl, if_neg (fun z => absurd ((clt (m := 12) (n := lj) rfl rfl (by decide) (by omega)).mp z) (by omega))]
  refine V_istore dX6_countCommon_21 (by decide) (by dsimp only [List.set] <;> rfl) rfl ?_
  refine V_iconst (v := 0) dX6_countCommon_23 (by decide) ?_
  refine V_istore dX6_countCommon_24 (by decide) (by dsimp only [List.set] <;> rfl) rfl ?_
  have clr : ∀ (m k : Nat) (f : Nat → Int32), k + m = lj + 1 → (∀ q, q < k → f q = 0) → V G l RX6 "countCommon" cX6_countCommon 10 (some .int) (rmd 3 0 0) E0 (Qm G (Rs G a (.int (lcsF (eqC C i j w) li lj)) C) sz 0 0) sz 0 0 26 [some (.ref (a + 0)), some (.int (nI i)), some (.int (nI j)), some (.int w), some (.int (nI lj)), some (.int (nI k)), none, none, none, none] [] (B G a (mset C 104 f)) := by
    intro m
    induction m with
    | zero =>
      intro k f hk hf
      obtain rfl : k = lj + 1 := by omega
      refine V_iload dX6_countCommon_26 rfl ?_
      refine V_iload dX6_countCommon_28 rfl ?_
      refine V_icmp_gt dX6_countCommon_30 (fun _ => ?_) (fun z => absurd ((clt (by repeat (first | with_reducible rfl | with_reducible exact nlit | with_reducible apply nadd | with_reducible apply nmul | with_reducible apply nsub | with_reducible assumption | omega)) (by repeat (first | with_reducible rfl | with_reducible exact nlit | with_reducible apply nadd | with_reducible apply nmul | with_reducible apply nsub | with_reducible assumption | omega)) (by omega) (by omega)).mpr (by omega)) z)
      refine V_aload_n dX6_countCommon_47 rfl ?_
      refine V_bget dX6_countCommon_48 fX6_12 (by decide) rfl (by (try simp only [mset_s, mset_n, pk_us, pk_un, ne_eq, Nat.reduceEqDiff, Nat.reduceAdd, not_false_eq_true, not_true_eq_false]) <;> rfl) ?_
      refine V_bget dX6_countCommon_51 fX6_74 (by decide) rfl (by (try simp only [mset_s, mset_n, pk_us, pk_un, ne_eq, Nat.reduceEqDiff, Nat.reduceAdd, not_false_eq_true, not_true_eq_false]) <;> rfl) ?_
      refine V_iload_n dX6_countCommon_54 rfl ?_
      refine V_callVw dX6_countCommon_55 kX6_118 ykX3_sizeOf (by decide) rfl rfl (tX3_sizeOf (q := 4) stk1.sh3 hi) rfl (Nat.le_of_ble_eq_true rfl) ⟨by decide, by decide, by decide, by decide⟩ ?_
      rw [show mset C 104 f (4 + 4) i = nI li from hli]
      refine V_istore dX6_countCommon_58 (by decide) (by dsimp only [List.set] <;> rfl) rfl ?_
      refine V_iconst (v := 0) dX6_countCommon_60 (by decide) ?_
      refine V_istore dX6_countCommon_61 (by decide) (by dsimp only [List.set] <;> rfl) rfl ?_
      have out : ∀ (m p : Nat) (f : Nat → Int32) (L7 L8 L9 : Option Value), p + m = li → (∀ q, q ≤ lj → f q = lcsF e p q) → V G l RX6 "countCommon" cX6_countCommon 10 (some .int) (rmd 3 0 0) E0 (Qm G (Rs G a (.int (lcsF (eqC C i j w) li lj)) C) sz 0 0) sz 0 0 63 [some (.ref (a + 0)), some (.int (nI i)), some (.int (nI j)), some (.int w), some (.int (nI lj)), some (.int (nI li)), some (.int (nI p)), L7, L8, L9] [] (B G a (mset C 104 f)) := by
        intro m
        induction m with
        | zero =>
          intro p f L7 L8 L9 hp hf
          obtain rfl : p = li := by omega
          refine V_iload dX6_countCommon_63 rfl ?_
          refine V_iload dX6_countCommon_65 rfl ?_
          refine V_icmp_ge dX6_countCommon_67 (fun _ => ?_) (fun z => absurd ((cle (by repeat (first | with_reducible rfl | with_reducible exact nlit | with_reducible apply nadd | with_reducible apply nmul | with_reducible apply nsub | with_reducible assumption | omega)) (by repeat (first | with_reducible rfl | with_reducible exact nlit | with_reducible apply nadd | with_reducible apply nmul | with_reducible apply nsub | with_reducible assumption | omega)) (by omega) (by omega)).mpr (by omega)) z)
          refine V_iload dX6_countCommon_159 rfl ?_
          refine V_if_ge dX6_countCommon_161 (fun _ => ?_) (fun z => absurd ((cle (by repeat (first | with_reducible rfl | with_reducible exact nlit | with_reducible apply nadd | with_reducible apply nmul | with_reducible apply nsub | with_reducible assumption | omega)) (by repeat (first | with_reducible rfl | with_reducible exact nlit | with_reducible apply nadd | with_reducible apply nmul | with_reducible apply nsub | with_reducible assumption | omega)) (by omega) (by omega)).mpr (by omega)) z)
          refine V_aload_n dX6_countCommon_168 rfl ?_
          refine V_bget dX6_countCommon_169 fX6_47 (by decide) rfl (by (try simp only [mset_s, mset_n, pk_us, pk_un, ne_eq, Nat.reduceEqDiff, Nat.reduceAdd, not_false_eq_true, not_true_eq_false]) <;> rfl) ?_
          refine V_iload dX6_countCommon_172 rfl ?_
          refine V_biald dX6_countCommon_174 (by decide) rfl (by repeat (first | with_reducible rfl | with_reducible exact nlit | with_reducible apply nadd | with_reducible apply nmul | with_reducible apply nsub | with_reducible assumption | omega)) (by omega) (by first | decide | omega) (by (try simp only [mset_s, mset_n, pk_us, pk_un, ne_eq, Nat.reduceEqDiff, Nat.reduceAdd, not_false_eq_true, not_true_eq_false]) <;> rfl) ?_
          refine V_iret dX6_countCommon_175 rfl rfl rfl ?_
          exact Rs_i (by rw [he] at hf; exact hf lj (Nat.le_refl _)) ⟨rfl, fun q hq => mset_n (scr_ne rfl hq)⟩
        | succ m ih =>
          intro p f L7 L8 L9 hp hf
          refine V_iload dX6_countCommon_63 rfl ?_
          refine V_iload dX6_countCommon_65 rfl ?_
          refine V_icmp_ge dX6_countCommon_67 (fun z => absurd z (fun z => absurd ((cle (by repeat (first | with_reducible rfl | with_reducible exact nlit | with_reducible apply nadd | with_reducible apply nmul | with_reducible apply nsub | with_reducible assumption | omega)) (by repeat (first | with_reducible rfl | with_reducible exact nlit | with_reducible apply nadd | with_reducible apply nmul | with_reducible apply nsub | with_reducible assumption | omega)) (by omega) (by omega)).mp z) (by omega))) (fun _ => ?_)
          refine V_iconst (v := 0) dX6_countCommon_70 (by decide) ?_
          refine V_istore dX6_countCommon_71 (by decide) (by dsimp only [List.set] <;> rfl) rfl ?_
          refine V_iconst (v := 1) dX6_countCommon_73 (by decide) ?_
          refine V_istore dX6_countCommon_74 (by decide) (by dsimp only [List.set] <;> rfl) rfl ?_
          have inn : ∀ (n k : Nat) (f : Nat → Int32) (L9 : Option Value), k + n = lj → (∀ q, q ≤ k → f q = lcsR (lcsF e p) (e p) q) → (∀ q, k < q → q ≤ lj → f q = lcsF e p q) → V G l RX6 "countCommon" cX6_countCommon 10 (some .int) (rmd 3 0 0) E0 (Qm G (Rs G a (.int (lcsF (eqC C i j w) li lj)) C) sz 0 0) sz 0 0 76 [some (.ref (a + 0)), some (.int (nI i)), some (.int (nI j)), some (.int w), some (.int (nI lj)), some (.int (nI li)), some (.int (nI p)), some (.int (lcsF e p k)), some (.int (nI (k + 1))), L9] [] (B G a (mset C 104 f)) := by
            intro n
            induction n with
            | zero =>
              intro k f L9 hk hf1 hf2
              obtain rfl : k = lj := by omega
              refine V_iload dX6_countCommon_76 rfl ?_
              refine V_iload dX6_countCommon_78 rfl ?_
              refine V_icmp_gt dX6_countCommon_80 (fun _ => ?_) (fun z => absurd ((clt (by repeat (first | with_reducible rfl | with_reducible exact nlit | with_reducible apply nadd | with_reducible apply nmul | with_reducible apply nsub | with_reducible assumption | omega)) (by repeat (first | with_reducible rfl | with_reducible exact nlit | with_reducible apply nadd | with_reducible apply nmul | with_reducible apply nsub | with_reducible assumption | omega)) (by omega) (by omega)).mpr (by omega)) z)
              refine V_iinc dX6_countCommon_153 rfl (ninc _) (by decide) (by dsimp only [List.set] <;> rfl) ?_
              refine V_goto dX6_countCommon_156 ?_
              exact ih (p + 1) f _ _ _ (by omega) hf1
            | succ n ih2 =>
              intro k f L9 hk hf1 hf2
              have nxt : ∀ v : Int32, v = lcsR (lcsF e p) (e p) (k + 1) → V G l RX6 "countCommon" cX6_countCommon 10 (some .int) (rmd 3 0 0) E0 (Qm G (Rs G a (.int (lcsF (eqC C i j w) li lj)) C) sz 0 0) sz 0 0 143 [some (.ref (a + 0)), some (.int (nI i)), some (.int (nI j)), some (.int w), some (.int (nI lj)), some (.int (nI li)), some (.int (nI p)), some (.int (lcsF e p k)), some (.int (nI (k + 1))), some (.int (lcsF e p (k + 1)))] [] (B G a (mset C 104 (upd f (k + 1) v))) := by
                intro v hv
                refine V_iload dX6_countCommon_143 rfl ?_
                refine V_istore dX6_countCommon_145 (by decide) (by dsimp only [List.set] <;> rfl) rfl ?_
                refine V_iinc dX6_countCommon_147 rfl (ninc _) (by decide) (by dsimp only [List.set] <;> rfl) ?_
                refine V_goto dX6_countCommon_150 ?_
                refine ih2 (k + 1) _ _ (by omega) (fun q hq => ?_) (fun q hq hq2 => ?_)
                · by_cases hqk : q = k + 1
                  · rw [hqk, pk_us, hv]
                  · rw [pk_un hqk]; exact hf1 q (by omega)
                · rw [pk_un (by omega)]; exact hf2 q (by omega) hq2
              refine V_iload dX6_countCommon_76 rfl ?_
              refine V_iload dX6_countCommon_78 rfl ?_
              refine V_icmp_gt dX6_countCommon_80 (fun z => absurd z (fun z => absurd ((clt (by repeat (first | with_reducible rfl | with_reducible exact nlit | with_reducible apply nadd | with_reducible apply nmul | with_reducible apply nsub | with_reducible assumption | omega)) (by repeat (first | with_reducible rfl | with_reducible exact nlit | with_reducible apply nadd | with_reducible apply nmul | with_reducible apply nsub | with_reducible assumption | omega)) (by omega) (by omega)).mp z) (by omega))) (fun _ => ?_)
              refine V_aload_n dX6_countCommon_83 rfl ?_
              refine V_bget dX6_countCommon_84 fX6_47 (by decide) rfl (by (try simp only [mset_s, mset_n, pk_us, pk_un, ne_eq, Nat.reduceEqDiff, Nat.reduceAdd, not_false_eq_true, not_true_eq_false]) <;> rfl) ?_
              refine V_iload dX6_countCommon_87 rfl ?_
              refine V_biald dX6_countCommon_89 (by decide) rfl (by repeat (first | with_reducible rfl | with_reducible exact nlit | with_reducible apply nadd | with_reducible apply nmul | with_reducible apply nsub | with_reducible assumption | omega)) (by omega) (by first | decide | omega) (by (try simp only [mset_s, mset_n, pk_us, pk_un, ne_eq, Nat.reduceEqDiff, Nat.reduceAdd, not_false_eq_true, not_true_eq_false]) <;> rfl) ?_
              rw [hf2 (k + 1) (by omega) (by omega)]
              refine V_istore dX6_countCommon_90 (by decide) (by dsimp only [List.set] <;> rfl) rfl ?_
              refine V_aload_n dX6_countCommon_92 rfl ?_
              refine V_iload_n dX6_countCommon_93 rfl ?_
              refine V_iload dX6_countCommon_94 rfl ?_
              refine V_iload_n dX6_countCommon_96 rfl ?_
              refine V_iload dX6_countCommon_97 rfl ?_
              refine V_iconst (v := 1) dX6_countCommon_99 (by decide) ?_
              refine V_isub dX6_countCommon_100 ?_
              rw [show nI (k + 1) - 1 = nI k from nI_pred k]
              refine V_iload_n dX6_countCommon_101 rfl ?_
              refine V_callVw dX6_countCommon_102 kX6_260 ykX6_areAlike (j := 0) (by decide) rfl rfl (tX6_areAlike (C := mset C 104 f) (i := i) (j := j) (p := p) (q := k) (w := w) hi hj (by omega) (by omega)) rfl (Nat.le_of_ble_eq_true rfl) ⟨by decide, by decide, by decide, by decide⟩ ?_
              rw [show eqC (mset C 104 f) i j w p k = e p k from by rw [he]; rfl]
              by_cases hep : e p k = true
              · refine V_if_eq dX6_countCommon_105 (fun z => absurd z (bI_ne0.mpr hep)) (fun _ => ?_)
                refine V_aload_n dX6_countCommon_108 rfl ?_
                refine V_bget dX6_countCommon_109 fX6_47 (by decide) rfl (by (try simp only [mset_s, mset_n, pk_us, pk_un, ne_eq, Nat.reduceEqDiff, Nat.reduceAdd, not_false_eq_true, not_true_eq_false]) <;> rfl) ?_
                refine V_iload dX6_countCommon_112 rfl ?_
                refine V_iload dX6_countCommon_114 rfl ?_
                refine V_iconst (v := 1) dX6_countCommon_116 (by decide) ?_
                refine V_iadd dX6_countCommon_117 ?_
                refine V_biast dX6_countCommon_118 (by decide) (fun _ => rfl) (by repeat (first | with_reducible rfl | with_reducible exact nlit | with_reducible apply nadd | with_reducible apply nmul | with_reducible apply nsub | with_reducible assumption | omega)) (by omega) (by first | decide | omega) ?_
                refine V_goto dX6_countCommon_119 ?_
                rw [mset_s, mset_ss]
                exact nxt _ (by rw [lcsR, if_pos hep])
              · refine V_if_eq dX6_countCommon_105 (fun _ => ?_) (fun z => absurd (bI_f hep) z)
                refine V_aload_n dX6_countCommon_122 rfl ?_
                refine V_bget dX6_countCommon_123 fX6_47 (by decide) rfl (by (try simp only [mset_s, mset_n, pk_us, pk_un, ne_eq, Nat.reduceEqDiff, Nat.reduceAdd, not_false_eq_true, not_true_eq_false]) <;> rfl) ?_
                refine V_iload dX6_countCommon_126 rfl ?_
                refine V_iload dX6_countCommon_128 rfl ?_
                refine V_aload_n dX6_countCommon_130 rfl ?_
                refine V_bget dX6_countCommon_131 fX6_47 (by decide) rfl (by (try simp only [mset_s, mset_n, pk_us, pk_un, ne_eq, Nat.reduceEqDiff, Nat.reduceAdd, not_false_eq_true, not_true_eq_false]) <;> rfl) ?_
                refine V_iload dX6_countCommon_134 rfl ?_
                refine V_iconst (v := 1) dX6_countCommon_136 (by decide) ?_
                refine V_isub dX6_countCommon_137 ?_
                rw [show nI (k + 1) - 1 = nI k from nI_pred k]
                refine V_biald dX6_countCommon_138 (by decide) rfl (by repeat (first | with_reducible rfl | with_reducible exact nlit | with_reducible apply nadd | with_reducible apply nmul | with_reducible apply nsub | with_reducible assumption | omega)) (by omega) (by first | decide | omega) (by (try simp only [mset_s, mset_n, pk_us, pk_un, ne_eq, Nat.reduceEqDiff, Nat.reduceAdd, not_false_eq_true, not_true_eq_false]) <;> rfl) ?_
                rw [hf1 k (Nat.le_refl _)]
                refine V_max dX6_countCommon_139 gmax_X6_264 gmaxS gmaxI gmaxC (Nat.le_of_ble_eq_true rfl) (Nat.le_of_ble_eq_true rfl) (Nat.le_of_ble_eq_true rfl) (Nat.le_of_ble_eq_true rfl) ?_
                refine V_biast dX6_countCommon_142 (by decide) (fun _ => rfl) (by repeat (first | with_reducible rfl | with_reducible exact nlit | with_reducible apply nadd | with_reducible apply nmul | with_reducible apply nsub | with_reducible assumption | omega)) (by omega) (by first | decide | omega) ?_
                rw [mset_s, mset_ss]
                exact nxt _ (by rw [lcsR, if_neg hep])
          have := inn lj 0 f L9 (by omega) (fun q hq => by obtain rfl : q = 0 := by omega
                                                           rw [hf 0 (by omega), lcsF_0]; rfl) (fun q _ hq2 => hf q hq2)
          rw [lcsF_0] at this
          exact this
      exact out li 0 f _ _ _ (by omega) (fun q hq => by rw [hf q (by omega)]; rfl)
    | succ m ih =>
      intro k f hk hf
      refine V_iload dX6_countCommon_26 rfl ?_
      refine V_iload dX6_countCommon_28 rfl ?_
      refine V_icmp_gt dX6_countCommon_30 (fun z => absurd z (fun z => absurd ((clt (by repeat (first | with_reducible rfl | with_reducible exact nlit | with_reducible apply nadd | with_reducible apply nmul | with_reducible apply nsub | with_reducible assumption | omega)) (by repeat (first | with_reducible rfl | with_reducible exact nlit | with_reducible apply nadd | with_reducible apply nmul | with_reducible apply nsub | with_reducible assumption | omega)) (by omega) (by omega)).mp z) (by omega))) (fun _ => ?_)
      refine V_aload_n dX6_countCommon_33 rfl ?_
      refine V_bget dX6_countCommon_34 fX6_47 (by decide) rfl (by (try simp only [mset_s, mset_n, pk_us, pk_un, ne_eq, Nat.reduceEqDiff, Nat.reduceAdd, not_false_eq_true, not_true_eq_false]) <;> rfl) ?_
      refine V_iload dX6_countCommon_37 rfl ?_
      refine V_iconst (v := 0) dX6_countCommon_39 (by decide) ?_
      refine V_biast dX6_countCommon_40 (by decide) (fun _ => rfl) (by repeat (first | with_reducible rfl | with_reducible exact nlit | with_reducible apply nadd | with_reducible apply nmul | with_reducible apply nsub | with_reducible assumption | omega)) (by omega) (by first | decide | omega) ?_
      refine V_iinc dX6_countCommon_41 rfl (ninc _) (by decide) (by dsimp only [List.set] <;> rfl) ?_
      refine V_goto dX6_countCommon_44 ?_
      rw [mset_s, mset_ss]
      refine ih (k + 1) _ (by omega) (fun q hq => ?_)
      by_cases hqk : q = k
      · rw [hqk, pk_us]
      · rw [pk_un hqk]; exact hf q (by omega)
  have k0 := clr (lj + 1) 0 (C 104) (by omega) (fun q hq => absurd hq (by omega))
  rw [mset_eta] at k0
  exact k0
set_option maxHeartbeats 4000000 in
theorem tX6_alike {tc i j li lj : Nat} (x3 : Int32) (h4 : C 4 0 = nI tc) (htc : tc ≤ 6) (hi : i < tc) (hj : j < tc) (hx : 0 ≤ x3 ∧ x3 ≤ 1) (hli : C 8 i = nI li) (hlj : C 8 j = nI lj) (h1 : li ≤ 12) (h2 : lj ≤ 12) : Ct G l yX6_alike cX6_alike 4 (some .int) 4 0 0 sz [.ref a, .int (nI i), .int (nI j), .int x3] (B G a C) (Rs G a (.int (lcsF (eqC C i j (bI (x3 = 1))) li lj)) C) := by
  have hx1 := hx.1
  have hx2 := hx.2
  rw [i_le] at hx1 hx2
  have z0 : (0 : Int32).toInt = 0 := rfl
  have z1 : (1 : Int32).toInt = 1 := rfl
  refine Ct.of (own := RX6) (mn := "alike") (L0 := [some (.ref (a + 0)), some (.int (nI i)), some (.int (nI j)), some (.int x3)]) (by decide +kernel) rfl rfl rfl (Nat.le_of_ble_eq_true rfl) rfl ?_
  refine V_aload_n dX6_alike_0 rfl ?_
  refine V_bget dX6_alike_1 fX6_12 (by decide) rfl (by (try simp only [mset_s, mset_n, pk_us, pk_un, ne_eq, Nat.reduceEqDiff, Nat.reduceAdd, not_false_eq_true, not_true_eq_false]) <;> rfl) ?_
  refine V_bget dX6_alike_4 fX6_74 (by decide) rfl (by (try simp only [mset_s, mset_n, pk_us, pk_un, ne_eq, Nat.reduceEqDiff, Nat.reduceAdd, not_false_eq_true, not_true_eq_false]) <;> rfl) ?_
  refine V_iload_n dX6_alike_7 rfl ?_
  refine V_callVw dX6_alike_8 kX6_105 ykX3_holds (by decide) rfl rfl (tX3_holds (q := 4) (cnt := tc) stk1.sh3 h4 (by omega)) rfl (Nat.le_of_ble_eq_true rfl) ⟨by decide, by decide, by decide, by decide⟩ ?_
  refine V_if_eq dX6_alike_11 (fun z => absurd z (bI_ne0.mpr (isIx_nI hi (by omega)))) (fun _ => ?_)
  refine V_aload_n dX6_alike_14 rfl ?_
  refine V_bget dX6_alike_15 fX6_12 (by decide) rfl (by (try simp only [mset_s, mset_n, pk_us, pk_un, ne_eq, Nat.reduceEqDiff, Nat.reduceAdd, not_false_eq_true, not_true_eq_false]) <;> rfl) ?_
  refine V_bget dX6_alike_18 fX6_74 (by decide) rfl (by (try simp only [mset_s, mset_n, pk_us, pk_un, ne_eq, Nat.reduceEqDiff, Nat.reduceAdd, not_false_eq_true, not_true_eq_false]) <;> rfl) ?_
  refine V_iload_n dX6_alike_21 rfl ?_
  refine V_callVw dX6_alike_22 kX6_105 ykX3_holds (by decide) rfl rfl (tX3_holds (q := 4) (cnt := tc) stk1.sh3 h4 (by omega)) rfl (Nat.le_of_ble_eq_true rfl) ⟨by decide, by decide, by decide, by decide⟩ ?_
  refine V_if_ne dX6_alike_25 (fun _ => ?_) (fun z => absurd z ((bI_ne0.mpr (isIx_nI hj (by omega)))))
  refine V_iload_n dX6_alike_30 rfl ?_
  refine V_if_lt dX6_alike_31 (fun z => absurd z (fun z => by rw [i_lt] at z; omega)) (fun _ => ?_)
  refine V_iload_n dX6_alike_34 rfl ?_
  refine V_iconst (v := 1) dX6_alike_35 (by decide) ?_
  refine V_icmp_le dX6_alike_36 (fun _ => ?_) (fun z => absurd (by rw [i_le]; exact hx2) z)
  have fin : V G l RX6 "alike" cX6_alike 4 (some .int) (rmd 4 0 0) E0 (Qm G (Rs G a (.int (lcsF (eqC C i j (bI (x3 = 1))) li lj)) C) sz 0 0) sz 0 0 55 [some (.ref (a + 0)), some (.int (nI i)), some (.int (nI j)), some (.int x3)] [.int (bI (x3 = 1)), .int (nI j), .int (nI i), .ref (a + 0)] (B G a C) := by
    refine V_callV dX6_alike_55 kX6_212 ykX6_countCommon (B_at (j := 0) (by decide) rfl) rfl (tX6_countCommon (w := bI (x3 = 1)) (by omega) (by omega) hli hlj h1 h2) rfl (Nat.le_of_ble_eq_true rfl) ⟨by decide, by decide, by decide, by decide⟩ ?_
    intro r h' hq
    obtain ⟨C1, rfl, rfl, hS⟩ := hq
    show V G l RX6 "alike" cX6_alike 4 (some .int) (rmd 4 0 0) E0 (Qm G (Rs G a (.int (lcsF (eqC C i j (bI (x3 = 1))) li lj)) C) sz 0 0) sz 0 0 58 [some (.ref (a + 0)), some (.int (nI i)), some (.int (nI j)), some (.int x3)] [.int (lcsF (eqC C i j (bI (x3 = 1))) li lj)] (B G a C1)
    refine V_iret dX6_alike_58 rfl rfl rfl ?_
    exact Rs_i rfl hS
  refine V_aload_n dX6_alike_42 rfl ?_
  refine V_iload_n dX6_alike_43 rfl ?_
  refine V_iload_n dX6_alike_44 rfl ?_
  refine V_iload_n dX6_alike_45 rfl ?_
  refine V_iconst (v := 1) dX6_alike_46 (by decide) ?_
  refine V_icmp_ne dX6_alike_47 (fun c47 => ?_) (fun c47 => ?_)
  · refine V_iconst (v := 0) dX6_alike_54 (by decide) ?_
    exact V_toe (bI_f c47).symm fin
  · refine V_iconst (v := 1) dX6_alike_50 (by decide) ?_
    refine V_goto dX6_alike_51 ?_
    exact V_toe (bI_t c47).symm fin
end CLS
