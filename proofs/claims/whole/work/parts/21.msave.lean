/-! TryLoopsModel: save, undo, keep, restore. -/
def svP (z p : Nat → Int32) (st : Nat) : Nat → Int32 := if st = 4 then va_cpy z (va_cpy p p 441 0 1323) 0 1323 441 else va_cpy z p 0 (441 * st) 441
def svN (st : Nat) : Nat := if st = 4 then 4 else st + 1
def mSave (C : CT) (st : Nat) : CT := mset (mset C 108 (svP (C 106) (C 108) st)) 105 (upd (C 105) 0 (nI (svN st)))
section MODEL
variable {G : GT} {l : Launch} {sz a : Nat} {C : CT}
set_option maxHeartbeats 4000000 in
theorem tX7_save {st : Nat} (hst : st ≤ 4) (h0 : C 105 0 = nI st) : Ct G l yX7_save cX7_save 2 none 1 0 0 sz [.ref (a + 105)] (B G a C) (Rwu G a (mSave C st)) := by
  refine Ct.of (own := RX7) (mn := "save") (L0 := [some (.ref (a + 105)), none]) (by decide +kernel) rfl rfl rfl (Nat.le_of_ble_eq_true rfl) rfl ?_
  have tail : ∀ (C1 : CT) (s1 : Nat) (L1 : Option Value), s1 < 4 → C1 105 0 = nI s1 → C1 106 = C 106 → mset (mset C1 108 (va_cpy (C1 106) (C1 108) 0 (441 * s1) 441)) 105 (upd (C1 105) 0 (nI (s1 + 1))) = mSave C st → V G l RX7 "save" cX7_save 2 none (rmd 1 0 0) E0 (Qm G (Rwu G a (mSave C st)) sz 0 0) sz 0 0 49 [some (.ref (a + 105)), L1] [] (B G a C1) := by
    intro C1 s1 L1 hs1 h1 h2 hC
    refine V_aload_n dX7_save_49 rfl ?_
    refine V_bget dX7_save_50 fX7_7 (by decide) rfl (by (try simp only [mset_s, mset_n, pk_us, pk_un, ne_eq, Nat.reduceEqDiff, Nat.reduceAdd, not_false_eq_true, not_true_eq_false]) <;> rfl) ?_
    refine V_iconst (v := 0) dX7_save_53 (by decide) ?_
    refine V_aload_n dX7_save_54 rfl ?_
    refine V_bget dX7_save_55 fX7_16 (by decide) rfl (by (try simp only [mset_s, mset_n, pk_us, pk_un, ne_eq, Nat.reduceEqDiff, Nat.reduceAdd, not_false_eq_true, not_true_eq_false]) <;> rfl) ?_
    refine V_sipush (v := 441) dX7_save_58 (by decide) ?_
    refine V_aload_n dX7_save_61 rfl ?_
    refine V_bget dX7_save_62 fX7_41 (by decide) rfl (by (try simp only [mset_s, mset_n, pk_us, pk_un, ne_eq, Nat.reduceEqDiff, Nat.reduceAdd, not_false_eq_true, not_true_eq_false]) <;> rfl) ?_
    rw [h1]
    refine V_imul dX7_save_65 ?_
    rw [show (441 : Int32) * nI s1 = nI (441 * s1) from nmul nlit rfl]
    refine V_callSu dX7_save_66 kX7_45 ykX7_copyState (tX7_copyState (p := 106) (q := 108) (u := 0) (np := 441) (nq := 1764) (by decide) (by decide) (fun _ => rfl) (fun _ => rfl) (by decide) (by omega) (by omega) (by decide) (by decide)) rfl (Nat.le_of_ble_eq_true rfl) ⟨by decide, by decide, by decide, by decide⟩ ?_
    refine V_aload_n dX7_save_69 rfl ?_
    refine V_dup dX7_save_70 rfl ?_
    refine V_bget dX7_save_71 fX7_41 (by decide) rfl (by (try simp only [mset_s, mset_n, pk_us, pk_un, ne_eq, Nat.reduceEqDiff, Nat.reduceAdd, not_false_eq_true, not_true_eq_false]) <;> rfl) ?_
    rw [h1]
    refine V_iconst (v := 1) dX7_save_74 (by decide) ?_
    refine V_iadd dX7_save_75 ?_
    rw [show nI s1 + 1 = nI (s1 + 1) from nI_1 s1]
    refine V_bputi (i0 := 0) dX7_save_76 fX7_41 (by decide) rfl rfl rfl (Nat.le_of_ble_eq_true rfl) rfl ?_
    refine V_vret dX7_save_79 rfl rfl rfl ?_
    refine Rwu_i ?_
    rw [← hC]
    simp only [mset_s, mset_ss, mset_n, pk_us, pk_un, uus, ne_eq, Nat.reduceEqDiff, Nat.reduceAdd, not_false_eq_true, not_true_eq_false]
  refine V_aload_n dX7_save_0 rfl ?_
  refine V_bget dX7_save_1 fX7_41 (by decide) rfl (by (try simp only [mset_s, mset_n, pk_us, pk_un, ne_eq, Nat.reduceEqDiff, Nat.reduceAdd, not_false_eq_true, not_true_eq_false]) <;> rfl) ?_
  by_cases h4 : st = 4
  · have h04 : C 105 0 = 4 := by rw [h0, h4]; rfl
    rw [h04]
    refine V_iconst (v := 4) dX7_save_4 (by decide) ?_
    refine V_icmp_ne dX7_save_5 (fun z => absurd z (fun z => z rfl)) (fun _ => ?_)
    have key : ∀ (n k : Nat), k + n = 1323 → V G l RX7 "save" cX7_save 2 none (rmd 1 0 0) E0 (Qm G (Rwu G a (mSave C st)) sz 0 0) sz 0 0 10 [some (.ref (a + 105)), some (.int (nI k))] [] (B G a (mset C 108 (va_cpy (C 108) (C 108) 441 0 k))) := by
      intro n
      induction n with
      | zero =>
        intro k hk
        obtain rfl : k = 1323 := by omega
        refine V_iload_n dX7_save_10 rfl ?_
        refine V_sipush (v := 1323) dX7_save_11 (by decide) ?_
        refine V_icmp_ge dX7_save_14 (fun _ => ?_) (fun z => absurd ((cle (by repeat (first | with_reducible rfl | with_reducible exact nlit | with_reducible apply nadd | with_reducible apply nmul | with_reducible apply nsub | with_reducible assumption | omega)) (by repeat (first | with_reducible rfl | with_reducible exact nlit | with_reducible apply nadd | with_reducible apply nmul | with_reducible apply nsub | with_reducible assumption | omega)) (by omega) (by omega)).mpr (by omega)) z)
        refine V_aload_n dX7_save_39 rfl ?_
        refine V_dup dX7_save_40 rfl ?_
        refine V_bget dX7_save_41 fX7_41 (by decide) rfl (by (try simp only [mset_s, mset_n, pk_us, pk_un, ne_eq, Nat.reduceEqDiff, Nat.reduceAdd, not_false_eq_true, not_true_eq_false]) <;> rfl) ?_
        rw [h04]
        refine V_iconst (v := 1) dX7_save_44 (by decide) ?_
        refine V_isub dX7_save_45 ?_
        rw [show (4 : Int32) - 1 = nI 3 from rfl]
        refine V_bputi (i0 := 0) dX7_save_46 fX7_41 (by decide) rfl rfl rfl (Nat.le_of_ble_eq_true rfl) rfl ?_
        refine tail _ 3 _ (by decide) ?_ ?_ ?_
        · simp only [mset_s, mset_ss, mset_n, pk_us, pk_un, uus, ne_eq, Nat.reduceEqDiff, Nat.reduceAdd, not_false_eq_true, not_true_eq_false]
        · simp only [mset_s, mset_ss, mset_n, pk_us, pk_un, uus, ne_eq, Nat.reduceEqDiff, Nat.reduceAdd, not_false_eq_true, not_true_eq_false]
        simp only [mset_s, mset_ss, mset_n, pk_us, pk_un, uus, ne_eq, Nat.reduceEqDiff, Nat.reduceAdd, not_false_eq_true, not_true_eq_false]
        unfold mSave svP svN
        rw [if_pos h4, if_pos h4]
        funext i
        by_cases h5 : i = 105
        · subst h5
          simp only [mset_s, mset_ss, mset_n, pk_us, pk_un, uus, ne_eq, Nat.reduceEqDiff, Nat.reduceAdd, not_false_eq_true, not_true_eq_false]
        · rw [mset_n h5, mset_n h5]
          by_cases h8 : i = 108
          · subst h8
            simp only [mset_s, mset_ss, mset_n, pk_us, pk_un, uus, ne_eq, Nat.reduceEqDiff, Nat.reduceAdd, not_false_eq_true, not_true_eq_false]
          · rw [mset_n h8, mset_n h5, mset_n h8, mset_n h8]
      | succ n ih =>
        intro k hk
        refine V_iload_n dX7_save_10 rfl ?_
        refine V_sipush (v := 1323) dX7_save_11 (by decide) ?_
        refine V_icmp_ge dX7_save_14 (fun z => absurd z (fun z => absurd ((cle (by repeat (first | with_reducible rfl | with_reducible exact nlit | with_reducible apply nadd | with_reducible apply nmul | with_reducible apply nsub | with_reducible assumption | omega)) (by repeat (first | with_reducible rfl | with_reducible exact nlit | with_reducible apply nadd | with_reducible apply nmul | with_reducible apply nsub | with_reducible assumption | omega)) (by omega) (by omega)).mp z) (by omega))) (fun _ => ?_)
        refine V_aload_n dX7_save_17 rfl ?_
        refine V_bget dX7_save_18 fX7_16 (by decide) rfl (by (try simp only [mset_s, mset_n, pk_us, pk_un, ne_eq, Nat.reduceEqDiff, Nat.reduceAdd, not_false_eq_true, not_true_eq_false]) <;> rfl) ?_
        refine V_iload_n dX7_save_21 rfl ?_
        refine V_aload_n dX7_save_22 rfl ?_
        refine V_bget dX7_save_23 fX7_16 (by decide) rfl (by (try simp only [mset_s, mset_n, pk_us, pk_un, ne_eq, Nat.reduceEqDiff, Nat.reduceAdd, not_false_eq_true, not_true_eq_false]) <;> rfl) ?_
        refine V_iload_n dX7_save_26 rfl ?_
        refine V_sipush (v := 441) dX7_save_27 (by decide) ?_
        refine V_iadd dX7_save_30 ?_
        refine V_biald dX7_save_31 (by decide) rfl (by repeat (first | with_reducible rfl | with_reducible exact nlit | with_reducible apply nadd | with_reducible apply nmul | with_reducible apply nsub | with_reducible assumption | omega)) (by omega) (by first | decide | omega) (by (try simp only [mset_s, mset_n, pk_us, pk_un, ne_eq, Nat.reduceEqDiff, Nat.reduceAdd, not_false_eq_true, not_true_eq_false]) <;> rfl) ?_
        refine V_biast dX7_save_32 (by decide) (fun _ => rfl) (by repeat (first | with_reducible rfl | with_reducible exact nlit | with_reducible apply nadd | with_reducible apply nmul | with_reducible apply nsub | with_reducible assumption | omega)) (by omega) (by first | decide | omega) ?_
        refine V_iinc dX7_save_33 rfl (ninc _) (by decide) (by dsimp only [List.set] <;> rfl) ?_
        refine V_goto dX7_save_36 ?_
        simp only [mset_s, mset_ss, mset_n, pk_us, pk_un, uus, ne_eq, Nat.reduceEqDiff, Nat.reduceAdd, not_false_eq_true, not_true_eq_false]
        have e1 : va_cpy (C 108) (C 108) 441 0 k (k + 441) = C 108 (441 + k) := by
          unfold va_cpy
          rw [if_neg (by omega), Nat.add_comm]
        rw [e1]
        have e2 := cpy_s (f := C 108) (g := C 108) (u := 441) (v := 0) (k := k)
        rw [Nat.zero_add] at e2
        rw [e2]
        exact ih (k + 1) (by omega)
    refine V_iconst (v := 0) dX7_save_8 (by decide) ?_
    refine V_istore_n dX7_save_9 (by decide) (by dsimp only [List.set] <;> rfl) ?_
    have h0 := key 1323 0 rfl
    rw [cpy_0, mset_eta] at h0
    exact h0
  · rw [h0]
    refine V_iconst (v := 4) dX7_save_4 (by decide) ?_
    refine V_icmp_ne dX7_save_5 (fun _ => ?_) (fun z => absurd z ((fun z => absurd ((ceq (by repeat (first | with_reducible rfl | with_reducible exact nlit | with_reducible apply nadd | with_reducible apply nmul | with_reducible apply nsub | with_reducible assumption | omega)) (by repeat (first | with_reducible rfl | with_reducible exact nlit | with_reducible apply nadd | with_reducible apply nmul | with_reducible apply nsub | with_reducible assumption | omega)) (by omega) (by omega)).mp z) (by omega))))
    refine tail C st _ (by omega) h0 rfl ?_
    unfold mSave svP svN
    rw [if_neg h4, if_neg h4]
set_option maxHeartbeats 4000000 in
def mUndo (C : CT) (st : Nat) : CT := mset (mset C 105 (upd (C 105) 0 (nI (st - 1)))) 106 (va_cpy (C 108) (C 106) (441 * (st - 1)) 0 441)
theorem tX7_undo {st : Nat} (hst : st ≤ 4) (h0 : C 105 0 = nI st) : Ct G l yX7_undo cX7_undo 1 (some .int) 1 0 0 sz [.ref (a + 105)] (B G a C) (Rw G a (.int (if st = 0 then -5 else nI (st - 1))) (if st = 0 then C else mUndo C st)) := by
  refine Ct.of (own := RX7) (mn := "undo") (L0 := [some (.ref (a + 105))]) (by decide +kernel) rfl rfl rfl (Nat.le_of_ble_eq_true rfl) rfl ?_
  refine V_aload_n dX7_undo_0 rfl ?_
  refine V_bget dX7_undo_1 fX7_41 (by decide) rfl (by (try simp only [mset_s, mset_n, pk_us, pk_un, ne_eq, Nat.reduceEqDiff, Nat.reduceAdd, not_false_eq_true, not_true_eq_false]) <;> rfl) ?_
  rw [h0]
  by_cases hs : st = 0
  · subst hs
    refine V_if_ne dX7_undo_4 (fun z => absurd z (fun z => z ((ceq (by repeat (first | with_reducible rfl | with_reducible exact nlit | with_reducible apply nadd | with_reducible apply nmul | with_reducible apply nsub | with_reducible assumption | omega)) (by repeat (first | with_reducible rfl | with_reducible exact nlit | with_reducible apply nadd | with_reducible apply nmul | with_reducible apply nsub | with_reducible assumption | omega)) (by omega) (by omega)).mpr (by omega)))) (fun _ => ?_)
    refine V_bipush (v := (-5)) dX7_undo_7 (by decide) ?_
    refine V_iret dX7_undo_9 rfl rfl rfl ?_
    exact Rw_i rfl rfl
  · refine V_if_ne dX7_undo_4 (fun _ => ?_) (fun z => absurd z ((fun z => absurd ((ceq (by repeat (first | with_reducible rfl | with_reducible exact nlit | with_reducible apply nadd | with_reducible apply nmul | with_reducible apply nsub | with_reducible assumption | omega)) (by repeat (first | with_reducible rfl | with_reducible exact nlit | with_reducible apply nadd | with_reducible apply nmul | with_reducible apply nsub | with_reducible assumption | omega)) (by omega) (by omega)).mp z) (by omega))))
    refine V_aload_n dX7_undo_10 rfl ?_
    refine V_dup dX7_undo_11 rfl ?_
    refine V_bget dX7_undo_12 fX7_41 (by decide) rfl (by (try simp only [mset_s, mset_n, pk_us, pk_un, ne_eq, Nat.reduceEqDiff, Nat.reduceAdd, not_false_eq_true, not_true_eq_false]) <;> rfl) ?_
    rw [h0]
    refine V_iconst (v := 1) dX7_undo_15 (by decide) ?_
    refine V_isub dX7_undo_16 ?_
    rw [show nI st - 1 = nI (st - 1) from nsub rfl nlit (by omega)]
    refine V_bputi (i0 := 0) dX7_undo_17 fX7_41 (by decide) rfl rfl rfl (Nat.le_of_ble_eq_true rfl) rfl ?_
    refine V_aload_n dX7_undo_20 rfl ?_
    refine V_bget dX7_undo_21 fX7_16 (by decide) rfl (by (try simp only [mset_s, mset_n, pk_us, pk_un, ne_eq, Nat.reduceEqDiff, Nat.reduceAdd, not_false_eq_true, not_true_eq_false]) <;> rfl) ?_
    refine V_sipush (v := 441) dX7_undo_24 (by decide) ?_
    refine V_aload_n dX7_undo_27 rfl ?_
    refine V_bget dX7_undo_28 fX7_41 (by decide) rfl (by (try simp only [mset_s, mset_n, pk_us, pk_un, ne_eq, Nat.reduceEqDiff, Nat.reduceAdd, not_false_eq_true, not_true_eq_false]) <;> rfl) ?_
    refine V_imul dX7_undo_31 ?_
    rw [show (441 : Int32) * nI (st - 1) = nI (441 * (st - 1)) from nmul nlit rfl]
    refine V_aload_n dX7_undo_32 rfl ?_
    refine V_bget dX7_undo_33 fX7_7 (by decide) rfl (by (try simp only [mset_s, mset_n, pk_us, pk_un, ne_eq, Nat.reduceEqDiff, Nat.reduceAdd, not_false_eq_true, not_true_eq_false]) <;> rfl) ?_
    refine V_iconst (v := 0) dX7_undo_36 (by decide) ?_
    refine V_callSu dX7_undo_37 kX7_45 ykX7_copyState (tX7_copyState (p := 108) (q := 106) (v := 0) (np := 1764) (nq := 441) (by decide) (by decide) (fun _ => rfl) (fun _ => rfl) (by decide) (by omega) (by omega) (by decide) (by decide)) rfl (Nat.le_of_ble_eq_true rfl) ⟨by decide, by decide, by decide, by decide⟩ ?_
    refine V_aload_n dX7_undo_40 rfl ?_
    refine V_bget dX7_undo_41 fX7_41 (by decide) rfl (by (try simp only [mset_s, mset_n, pk_us, pk_un, ne_eq, Nat.reduceEqDiff, Nat.reduceAdd, not_false_eq_true, not_true_eq_false]) <;> rfl) ?_
    refine V_iret dX7_undo_44 rfl rfl rfl ?_
    refine Rw_i (by rw [if_neg hs]) ?_
    rw [if_neg hs]
    unfold mUndo
    simp only [mset_s, mset_ss, mset_n, pk_us, pk_un, uus, ne_eq, Nat.reduceEqDiff, Nat.reduceAdd, not_false_eq_true, not_true_eq_false]
set_option maxHeartbeats 4000000 in
def mKeep (C : CT) : CT := mset (mset C 109 (va_cpy (C 106) (C 109) 0 0 441)) 105 (upd (C 105) 1 1)
theorem tX7_keep : Ct G l yX7_keep cX7_keep 1 (some .int) 1 0 0 sz [.ref (a + 105)] (B G a C) (Rw G a (.int (C 106 31)) (mKeep C)) := by
  refine Ct.of (own := RX7) (mn := "keep") (L0 := [some (.ref (a + 105))]) (by decide +kernel) rfl rfl rfl (Nat.le_of_ble_eq_true rfl) rfl ?_
  refine V_aload_n dX7_keep_0 rfl ?_
  refine V_bget dX7_keep_1 fX7_7 (by decide) rfl (by (try simp only [mset_s, mset_n, pk_us, pk_un, ne_eq, Nat.reduceEqDiff, Nat.reduceAdd, not_false_eq_true, not_true_eq_false]) <;> rfl) ?_
  refine V_iconst (v := 0) dX7_keep_4 (by decide) ?_
  refine V_aload_n dX7_keep_5 rfl ?_
  refine V_bget dX7_keep_6 fX7_19 (by decide) rfl (by (try simp only [mset_s, mset_n, pk_us, pk_un, ne_eq, Nat.reduceEqDiff, Nat.reduceAdd, not_false_eq_true, not_true_eq_false]) <;> rfl) ?_
  refine V_iconst (v := 0) dX7_keep_9 (by decide) ?_
  refine V_callSu dX7_keep_10 kX7_45 ykX7_copyState (tX7_copyState (p := 106) (q := 109) (u := 0) (v := 0) (np := 441) (nq := 441) (by decide) (by decide) (fun _ => rfl) (fun _ => rfl) (by decide) (by omega) (by omega) (by decide) (by decide)) rfl (Nat.le_of_ble_eq_true rfl) ⟨by decide, by decide, by decide, by decide⟩ ?_
  refine V_aload_n dX7_keep_13 rfl ?_
  refine V_iconst (v := 1) dX7_keep_14 (by decide) ?_
  refine V_bputi (i0 := 1) dX7_keep_15 fX7_49 (by decide) rfl (by first | rfl | exact bI_nar) (by first | rfl | exact bI_fit) (Nat.le_of_ble_eq_true rfl) rfl ?_
  refine V_aload_n dX7_keep_18 rfl ?_
  refine V_bget dX7_keep_19 fX7_7 (by decide) rfl (by (try simp only [mset_s, mset_n, pk_us, pk_un, ne_eq, Nat.reduceEqDiff, Nat.reduceAdd, not_false_eq_true, not_true_eq_false]) <;> rfl) ?_
  refine V_bipush (v := 31) dX7_keep_22 (by decide) ?_
  refine V_biald dX7_keep_24 (by decide) rfl (by repeat (first | with_reducible rfl | with_reducible exact nlit | with_reducible apply nadd | with_reducible apply nmul | with_reducible apply nsub | with_reducible assumption | omega)) (by omega) (by first | decide | omega) (by (try simp only [mset_s, mset_n, pk_us, pk_un, ne_eq, Nat.reduceEqDiff, Nat.reduceAdd, not_false_eq_true, not_true_eq_false]) <;> rfl) ?_
  refine V_iret dX7_keep_25 rfl rfl rfl ?_
  refine Rw_i rfl ?_
  unfold mKeep
  simp only [mset_s, mset_ss, mset_n, pk_us, pk_un, uus, ne_eq, Nat.reduceEqDiff, Nat.reduceAdd, not_false_eq_true, not_true_eq_false]
set_option maxHeartbeats 4000000 in
def mRest (C : CT) (st : Nat) : CT := mset (mSave C st) 106 (va_cpy (C 109) (C 106) 0 0 441)
theorem tX7_restore {st : Nat} (hst : st ≤ 4) (h0 : C 105 0 = nI st) : Ct G l yX7_restore cX7_restore 1 (some .int) 2 0 0 sz [.ref (a + 105)] (B G a C) (Rw G a (.int (if C 105 1 = 0 then -5 else C 109 31)) (if C 105 1 = 0 then C else mRest C st)) := by
  refine Ct.of (own := RX7) (mn := "restore") (L0 := [some (.ref (a + 105))]) (by decide +kernel) rfl rfl rfl (Nat.le_of_ble_eq_true rfl) rfl ?_
  refine V_aload_n dX7_restore_0 rfl ?_
  refine V_bget dX7_restore_1 fX7_49 (by decide) rfl (by (try simp only [mset_s, mset_n, pk_us, pk_un, ne_eq, Nat.reduceEqDiff, Nat.reduceAdd, not_false_eq_true, not_true_eq_false]) <;> rfl) ?_
  by_cases hk : C 105 1 = 0
  · refine V_if_ne dX7_restore_4 (fun z => absurd z (fun z => z hk)) (fun _ => ?_)
    refine V_bipush (v := (-5)) dX7_restore_7 (by decide) ?_
    refine V_iret dX7_restore_9 rfl rfl rfl ?_
    exact Rw_i (by rw [if_pos hk]) (by rw [if_pos hk])
  · refine V_if_ne dX7_restore_4 (fun _ => ?_) (fun z => absurd z hk)
    refine V_aload_n dX7_restore_10 rfl ?_
    refine V_callVu dX7_restore_11 kX7_53 ykX7_save (by decide) rfl rfl (tX7_save hst h0) rfl (Nat.le_of_ble_eq_true rfl) ⟨by decide, by decide, by decide, by decide⟩ ?_
    have e1 : mSave C st 106 = C 106 := by unfold mSave; simp only [mset_s, mset_ss, mset_n, pk_us, pk_un, uus, ne_eq, Nat.reduceEqDiff, Nat.reduceAdd, not_false_eq_true, not_true_eq_false]
    have e2 : mSave C st 109 = C 109 := by unfold mSave; simp only [mset_s, mset_ss, mset_n, pk_us, pk_un, uus, ne_eq, Nat.reduceEqDiff, Nat.reduceAdd, not_false_eq_true, not_true_eq_false]
    refine V_aload_n dX7_restore_14 rfl ?_
    refine V_bget dX7_restore_15 fX7_19 (by decide) rfl (by (try simp only [mset_s, mset_n, pk_us, pk_un, ne_eq, Nat.reduceEqDiff, Nat.reduceAdd, not_false_eq_true, not_true_eq_false]) <;> rfl) ?_
    refine V_iconst (v := 0) dX7_restore_18 (by decide) ?_
    refine V_aload_n dX7_restore_19 rfl ?_
    refine V_bget dX7_restore_20 fX7_7 (by decide) rfl (by (try simp only [mset_s, mset_n, pk_us, pk_un, ne_eq, Nat.reduceEqDiff, Nat.reduceAdd, not_false_eq_true, not_true_eq_false]) <;> rfl) ?_
    refine V_iconst (v := 0) dX7_restore_23 (by decide) ?_
    refine V_callSu dX7_restore_24 kX7_45 ykX7_copyState (tX7_copyState (p := 109) (q := 106) (u := 0) (v := 0) (np := 441) (nq := 441) (by decide) (by decide) (fun _ => rfl) (fun _ => rfl) (by decide) (by omega) (by omega) (by decide) (by decide)) rfl (Nat.le_of_ble_eq_true rfl) ⟨by decide, by decide, by decide, by decide⟩ ?_
    rw [e1, e2]
    refine V_aload_n dX7_restore_27 rfl ?_
    refine V_bget dX7_restore_28 fX7_7 (by decide) rfl (by (try simp only [mset_s, mset_n, pk_us, pk_un, ne_eq, Nat.reduceEqDiff, Nat.reduceAdd, not_false_eq_true, not_true_eq_false]) <;> rfl) ?_
    refine V_bipush (v := 31) dX7_restore_31 (by decide) ?_
    refine V_biald dX7_restore_33 (by decide) rfl (by repeat (first | with_reducible rfl | with_reducible exact nlit | with_reducible apply nadd | with_reducible apply nmul | with_reducible apply nsub | with_reducible assumption | omega)) (by omega) (by first | decide | omega) (by (try simp only [mset_s, mset_n, pk_us, pk_un, ne_eq, Nat.reduceEqDiff, Nat.reduceAdd, not_false_eq_true, not_true_eq_false]) <;> rfl) ?_
    refine V_iret dX7_restore_34 rfl rfl rfl ?_
    refine Rw_i ?_ ?_
    · rw [if_neg hk]
      rfl
    · rw [if_neg hk]
      rfl
end MODEL
