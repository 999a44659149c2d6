/-! TryLoopsModel: newLoop, stride, areLike, generalise. -/
def nlB (z : Nat → Int32) (at_ n : Nat) : Nat → (Nat → Int32)
  | 0 => z
  | k + 1 => upd (upd (nlB z at_ n k) (at_ + 2 + 3 * k) (z (38 + 25 * n + 1 + 2 * k))) (at_ + 3 + 3 * k) (z (38 + 25 * n + 2 + 2 * k))
theorem nlB_o {z : Nat → Int32} {at_ n j : Nat} : ∀ {k : Nat}, (j < at_ + 2 ∨ at_ + 2 + 3 * k ≤ j) → nlB z at_ n k j = z j := by
  intro k
  induction k with
  | zero => intro _; rfl
  | succ k ih =>
    intro h
    show upd (upd (nlB z at_ n k) _ _) _ _ j = z j
    rw [pk_un (by omega), pk_un (by omega)]
    exact ih (by omega)
def stB (z : Nat → Int32) (at_ : Nat) (g : Nat → Int32) : Nat → (Nat → Int32)
  | 0 => z
  | k + 1 => upd (stB z at_ g k) (at_ + 4 + 3 * k) (g k)
theorem stB_o {z : Nat → Int32} {at_ j : Nat} {g : Nat → Int32} : ∀ {k : Nat}, (∀ i, i < k → j ≠ at_ + 4 + 3 * i) → stB z at_ g k j = z j := by
  intro k
  induction k with
  | zero => intro _; rfl
  | succ k ih =>
    intro h
    show upd (stB z at_ g k) _ _ j = z j
    rw [pk_un (h k (by omega))]
    exact ih (fun i hi => h i (by omega))
def zNL (z : Nat → Int32) (lc n s : Nat) (t : Int32) : Nat → Int32 := upd (nlB (upd (upd z (213 + 38 * lc) (nI s)) (213 + 38 * lc + 1) t) (213 + 38 * lc) n s) 33 (nI (lc + 1))
abbrev likeU (z : Nat → Int32) (i j li lj k : Nat) : Prop := li = lj ∧ ∀ m, m < k → z (38 + 25 * i + 1 + 2 * m) = z (38 + 25 * j + 1 + 2 * m)
section MODEL
variable {G : GT} {l : Launch} {sz a : Nat} {C : CT}
set_option maxHeartbeats 4000000 in
theorem tX7_stride {n k : Nat} (x : Int32) (hn : n < 6) (hk : k < 12) : Ct G l yX7_stride cX7_stride 4 none 0 0 0 sz [.ref (a + 105), .int (nI n), .int (nI k), .int x] (B G a C) (Rwu G a (mset C 106 (upd (C 106) (213 + 38 * n + 4 + 3 * k) x))) := by
  refine Ct.of (own := RX7) (mn := "stride") (L0 := [some (.ref (a + 105)), some (.int (nI n)), some (.int (nI k)), some (.int x)]) (by decide +kernel) rfl rfl rfl (Nat.le_of_ble_eq_true rfl) rfl ?_
  refine V_aload_n dX7_stride_0 rfl ?_
  refine V_bget dX7_stride_1 fX7_7 (by decide) rfl (by (try simp only [mset_s, mset_n, pk_us, pk_un, ne_eq, Nat.reduceEqDiff, Nat.reduceAdd, not_false_eq_true, not_true_eq_false]) <;> rfl) ?_
  refine V_sipush (v := 213) dX7_stride_4 (by decide) ?_
  refine V_bipush (v := 38) dX7_stride_7 (by decide) ?_
  refine V_iload_n dX7_stride_9 rfl ?_
  refine V_imul dX7_stride_10 ?_
  refine V_iadd dX7_stride_11 ?_
  refine V_iconst (v := 4) dX7_stride_12 (by decide) ?_
  refine V_iadd dX7_stride_13 ?_
  refine V_iconst (v := 3) dX7_stride_14 (by decide) ?_
  refine V_iload_n dX7_stride_15 rfl ?_
  refine V_imul dX7_stride_16 ?_
  refine V_iadd dX7_stride_17 ?_
  refine V_iload_n dX7_stride_18 rfl ?_
  refine V_biast dX7_stride_19 (by decide) (fun _ => rfl) (by repeat (first | with_reducible rfl | with_reducible exact nlit | with_reducible apply nadd | with_reducible apply nmul | with_reducible apply nsub | with_reducible assumption | omega)) (by omega) (by first | decide | omega) ?_
  refine V_vret dX7_stride_20 rfl rfl rfl ?_
  exact Rwu_i rfl
set_option maxHeartbeats 4000000 in
theorem tX7_newLoop {lc n s : Nat} (t : Int32) (h33 : C 106 33 = nI lc) (hlc : lc < 6) (hn : n < 7) (hs : s ≤ 12) : Ct G l yX7_newLoop cX7_newLoop 6 (some .int) 1 0 0 sz [.ref (a + 105), .int (nI n), .int (nI s), .int t] (B G a C) (Rw G a (.int (nI lc)) (mset C 106 (zNL (C 106) lc n s t))) := by
  refine Ct.of (own := RX7) (mn := "newLoop") (L0 := [some (.ref (a + 105)), some (.int (nI n)), some (.int (nI s)), some (.int t), none, none]) (by decide +kernel) rfl rfl rfl (Nat.le_of_ble_eq_true rfl) rfl ?_
  refine V_sipush (v := 213) dX7_newLoop_0 (by decide) ?_
  refine V_bipush (v := 38) dX7_newLoop_3 (by decide) ?_
  refine V_aload_n dX7_newLoop_5 rfl ?_
  refine V_bget dX7_newLoop_6 fX7_7 (by decide) rfl (by (try simp only [mset_s, mset_n, pk_us, pk_un, ne_eq, Nat.reduceEqDiff, Nat.reduceAdd, not_false_eq_true, not_true_eq_false]) <;> rfl) ?_
  refine V_bipush (v := 33) dX7_newLoop_9 (by decide) ?_
  refine V_biald dX7_newLoop_11 (by decide) rfl (by repeat (first | with_reducible rfl | with_reducible exact nlit | with_reducible apply nadd | with_reducible apply nmul | with_reducible apply nsub | with_reducible assumption | omega)) (by omega) (by first | decide | omega) (by (try simp only [mset_s, mset_n, pk_us, pk_un, ne_eq, Nat.reduceEqDiff, Nat.reduceAdd, not_false_eq_true, not_true_eq_false]) <;> rfl) ?_
  rw [h33]
  refine V_imul dX7_newLoop_12 ?_
  refine V_iadd dX7_newLoop_13 ?_
  rw [show (213 : Int32) + 38 * nI lc = nI (213 + 38 * lc) from nadd nlit (nmul nlit rfl)]
  refine V_istore dX7_newLoop_14 (by decide) (by dsimp only [List.set] <;> rfl) ?_
  refine V_aload_n dX7_newLoop_16 rfl ?_
  refine V_bget dX7_newLoop_17 fX7_7 (by decide) rfl (by (try simp only [mset_s, mset_n, pk_us, pk_un, ne_eq, Nat.reduceEqDiff, Nat.reduceAdd, not_false_eq_true, not_true_eq_false]) <;> rfl) ?_
  refine V_iload dX7_newLoop_20 rfl ?_
  refine V_iload_n dX7_newLoop_22 rfl ?_
  refine V_biast dX7_newLoop_23 (by decide) (fun _ => rfl) (by repeat (first | with_reducible rfl | with_reducible exact nlit | with_reducible apply nadd | with_reducible apply nmul | with_reducible apply nsub | with_reducible assumption | omega)) (by omega) (by first | decide | omega) ?_
  refine V_aload_n dX7_newLoop_24 rfl ?_
  refine V_bget dX7_newLoop_25 fX7_7 (by decide) rfl (by (try simp only [mset_s, mset_n, pk_us, pk_un, ne_eq, Nat.reduceEqDiff, Nat.reduceAdd, not_false_eq_true, not_true_eq_false]) <;> rfl) ?_
  refine V_iload dX7_newLoop_28 rfl ?_
  refine V_iconst (v := 1) dX7_newLoop_30 (by decide) ?_
  refine V_iadd dX7_newLoop_31 ?_
  refine V_iload_n dX7_newLoop_32 rfl ?_
  refine V_biast dX7_newLoop_33 (by decide) (fun _ => rfl) (by repeat (first | with_reducible rfl | with_reducible exact nlit | with_reducible apply nadd | with_reducible apply nmul | with_reducible apply nsub | with_reducible assumption | omega)) (by omega) (by first | decide | omega) ?_
  simp only [mset_s, mset_ss]
  have key : ∀ (m k : Nat), k + m = s → V G l RX7 "newLoop" cX7_newLoop 6 (some .int) (rmd 1 0 0) E0 (Qm G (Rw G a (.int (nI lc)) (mset C 106 (zNL (C 106) lc n s t))) sz 0 0) sz 0 0 37 [some (.ref (a + 105)), some (.int (nI n)), some (.int (nI s)), some (.int t), some (.int (nI (213 + 38 * lc))), some (.int (nI k))] [] (B G a (mset C 106 (nlB (upd (upd (C 106) (213 + 38 * lc) (nI s)) (213 + 38 * lc + 1) t) (213 + 38 * lc) n k))) := by
    intro m
    induction m with
    | zero =>
      intro k hk
      obtain rfl : k = s := by omega
      refine V_iload dX7_newLoop_37 rfl ?_
      refine V_iload_n dX7_newLoop_39 rfl ?_
      refine V_icmp_ge dX7_newLoop_40 (fun _ => ?_) (fun z => absurd ((cle (by repeat (first | with_reducible rfl | with_reducible exact nlit | with_reducible apply nadd | with_reducible apply nmul | with_reducible apply nsub | with_reducible assumption | omega)) (by repeat (first | with_reducible rfl | with_reducible exact nlit | with_reducible apply nadd | with_reducible apply nmul | with_reducible apply nsub | with_reducible assumption | omega)) (by omega) (by omega)).mpr (by omega)) z)
      refine V_aload_n dX7_newLoop_91 rfl ?_
      refine V_bget dX7_newLoop_92 fX7_7 (by decide) rfl (by (try simp only [mset_s, mset_n, pk_us, pk_un, ne_eq, Nat.reduceEqDiff, Nat.reduceAdd, not_false_eq_true, not_true_eq_false]) <;> rfl) ?_
      refine V_bipush (v := 33) dX7_newLoop_95 (by decide) ?_
      refine V_dup2 dX7_newLoop_97 rfl rfl ?_
      refine V_biald dX7_newLoop_98 (by decide) rfl (by repeat (first | with_reducible rfl | with_reducible exact nlit | with_reducible apply nadd | with_reducible apply nmul | with_reducible apply nsub | with_reducible assumption | omega)) (by omega) (by first | decide | omega) (by (try simp only [mset_s, mset_n, pk_us, pk_un, ne_eq, Nat.reduceEqDiff, Nat.reduceAdd, not_false_eq_true, not_true_eq_false]) <;> rfl) ?_
      rw [nlB_o (by omega), pk_un (by omega), pk_un (by omega), h33]
      refine V_iconst (v := 1) dX7_newLoop_99 (by decide) ?_
      refine V_iadd dX7_newLoop_100 ?_
      rw [show nI lc + 1 = nI (lc + 1) from nI_1 lc]
      refine V_biast dX7_newLoop_101 (by decide) (fun _ => rfl) (by repeat (first | with_reducible rfl | with_reducible exact nlit | with_reducible apply nadd | with_reducible apply nmul | with_reducible apply nsub | with_reducible assumption | omega)) (by omega) (by first | decide | omega) ?_
      refine V_aload_n dX7_newLoop_102 rfl ?_
      refine V_bget dX7_newLoop_103 fX7_7 (by decide) rfl (by (try simp only [mset_s, mset_n, pk_us, pk_un, ne_eq, Nat.reduceEqDiff, Nat.reduceAdd, not_false_eq_true, not_true_eq_false]) <;> rfl) ?_
      refine V_bipush (v := 33) dX7_newLoop_106 (by decide) ?_
      refine V_biald dX7_newLoop_108 (by decide) rfl (by repeat (first | with_reducible rfl | with_reducible exact nlit | with_reducible apply nadd | with_reducible apply nmul | with_reducible apply nsub | with_reducible assumption | omega)) (by omega) (by first | decide | omega) (by (try simp only [mset_s, mset_n, pk_us, pk_un, ne_eq, Nat.reduceEqDiff, Nat.reduceAdd, not_false_eq_true, not_true_eq_false]) <;> rfl) ?_
      simp only [mset_s, mset_ss]
      try rw [pk_us]
      refine V_iconst (v := 1) dX7_newLoop_109 (by decide) ?_
      refine V_isub dX7_newLoop_110 ?_
      refine V_iret dX7_newLoop_111 rfl rfl rfl ?_
      exact Rw_i (nI_pred lc) rfl
    | succ m ih =>
      intro k hk
      refine V_iload dX7_newLoop_37 rfl ?_
      refine V_iload_n dX7_newLoop_39 rfl ?_
      refine V_icmp_ge dX7_newLoop_40 (fun z => absurd z (fun z => absurd ((cle (by repeat (first | with_reducible rfl | with_reducible exact nlit | with_reducible apply nadd | with_reducible apply nmul | with_reducible apply nsub | with_reducible assumption | omega)) (by repeat (first | with_reducible rfl | with_reducible exact nlit | with_reducible apply nadd | with_reducible apply nmul | with_reducible apply nsub | with_reducible assumption | omega)) (by omega) (by omega)).mp z) (by omega))) (fun _ => ?_)
      refine V_aload_n dX7_newLoop_43 rfl ?_
      refine V_bget dX7_newLoop_44 fX7_7 (by decide) rfl (by (try simp only [mset_s, mset_n, pk_us, pk_un, ne_eq, Nat.reduceEqDiff, Nat.reduceAdd, not_false_eq_true, not_true_eq_false]) <;> rfl) ?_
      refine V_iload dX7_newLoop_47 rfl ?_
      refine V_iconst (v := 2) dX7_newLoop_49 (by decide) ?_
      refine V_iadd dX7_newLoop_50 ?_
      refine V_iconst (v := 3) dX7_newLoop_51 (by decide) ?_
      refine V_iload dX7_newLoop_52 rfl ?_
      refine V_imul dX7_newLoop_54 ?_
      refine V_iadd dX7_newLoop_55 ?_
      refine V_aload_n dX7_newLoop_56 rfl ?_
      refine V_iload_n dX7_newLoop_57 rfl ?_
      refine V_iload dX7_newLoop_58 rfl ?_
      refine V_callVw dX7_newLoop_60 kX7_71 ykX7_verbOf (by decide) rfl rfl (tX7_verbOf (by omega) (by omega)) rfl (Nat.le_of_ble_eq_true rfl) ⟨by decide, by decide, by decide, by decide⟩ ?_
      rw [mset_s, nlB_o (by omega)]
      refine V_biast dX7_newLoop_63 (by decide) (fun _ => rfl) (by repeat (first | with_reducible rfl | with_reducible exact nlit | with_reducible apply nadd | with_reducible apply nmul | with_reducible apply nsub | with_reducible assumption | omega)) (by omega) (by first | decide | omega) ?_
      refine V_aload_n dX7_newLoop_64 rfl ?_
      refine V_bget dX7_newLoop_65 fX7_7 (by decide) rfl (by (try simp only [mset_s, mset_n, pk_us, pk_un, ne_eq, Nat.reduceEqDiff, Nat.reduceAdd, not_false_eq_true, not_true_eq_false]) <;> rfl) ?_
      refine V_iload dX7_newLoop_68 rfl ?_
      refine V_iconst (v := 3) dX7_newLoop_70 (by decide) ?_
      refine V_iadd dX7_newLoop_71 ?_
      refine V_iconst (v := 3) dX7_newLoop_72 (by decide) ?_
      refine V_iload dX7_newLoop_73 rfl ?_
      refine V_imul dX7_newLoop_75 ?_
      refine V_iadd dX7_newLoop_76 ?_
      refine V_aload_n dX7_newLoop_77 rfl ?_
      refine V_iload_n dX7_newLoop_78 rfl ?_
      refine V_iload dX7_newLoop_79 rfl ?_
      simp only [mset_s, mset_ss]
      refine V_callVw dX7_newLoop_81 kX7_75 ykX7_numberOf (by decide) rfl rfl (tX7_numberOf (by omega) (by omega)) rfl (Nat.le_of_ble_eq_true rfl) ⟨by decide, by decide, by decide, by decide⟩ ?_
      rw [mset_s, pk_un (by omega), nlB_o (by omega)]
      refine V_biast dX7_newLoop_84 (by decide) (fun _ => rfl) (by repeat (first | with_reducible rfl | with_reducible exact nlit | with_reducible apply nadd | with_reducible apply nmul | with_reducible apply nsub | with_reducible assumption | omega)) (by omega) (by first | decide | omega) ?_
      refine V_iinc dX7_newLoop_85 rfl (ninc _) (by decide) (by dsimp only [List.set] <;> rfl) ?_
      refine V_goto dX7_newLoop_88 ?_
      simp only [mset_s, mset_ss]
      exact ih (k + 1) (by omega)
  refine V_iconst (v := 0) dX7_newLoop_34 (by decide) ?_
  refine V_istore dX7_newLoop_35 (by decide) (by dsimp only [List.set] <;> rfl) ?_
  exact key s 0 (by omega)
set_option maxHeartbeats 4000000 in
theorem tX7_areLike {i j li lj : Nat} (hi : i < 7) (hj : j < 7) (hli : C 106 (38 + 25 * i) = nI li) (hlj : C 106 (38 + 25 * j) = nI lj) (h1 : li ≤ 12) (h2 : lj ≤ 12) : Ct G l yX7_areLike cX7_areLike 5 (some .boolean) 1 0 0 sz [.ref (a + 105), .int (nI i), .int (nI j)] (B G a C) (Rw G a (.int (bI (likeU (C 106) i j li lj li))) C) := by
  refine Ct.of (own := RX7) (mn := "areLike") (L0 := [some (.ref (a + 105)), some (.int (nI i)), some (.int (nI j)), none, none]) (by decide +kernel) rfl rfl rfl (Nat.le_of_ble_eq_true rfl) rfl ?_
  have key : ∀ (m k : Nat), k + m = li → V G l RX7 "areLike" cX7_areLike 5 (some .boolean) (rmd 1 0 0) E0 (Qm G (Rw G a (.int (bI (likeU (C 106) i j li lj li))) C) sz 0 0) sz 0 0 22 [some (.ref (a + 105)), some (.int (nI i)), some (.int (nI j)), some (.int (bI (likeU (C 106) i j li lj k))), some (.int (nI k))] [] (B G a C) := by
    intro m
    induction m with
    | zero =>
      intro k hk
      obtain rfl : k = li := by omega
      refine V_iload dX7_areLike_22 rfl ?_
      refine V_aload_n dX7_areLike_24 rfl ?_
      refine V_iload_n dX7_areLike_25 rfl ?_
      refine V_callVw dX7_areLike_26 kX7_60 ykX7_sizeOf (by decide) rfl rfl (tX7_sizeOf (by omega)) rfl (Nat.le_of_ble_eq_true rfl) ⟨by decide, by decide, by decide, by decide⟩ ?_
      rw [hli]
      refine V_icmp_ge dX7_areLike_29 (fun _ => ?_) (fun z => absurd ((cle (by repeat (first | with_reducible rfl | with_reducible exact nlit | with_reducible apply nadd | with_reducible apply nmul | with_reducible apply nsub | with_reducible assumption | omega)) (by repeat (first | with_reducible rfl | with_reducible exact nlit | with_reducible apply nadd | with_reducible apply nmul | with_reducible apply nsub | with_reducible assumption | omega)) (by omega) (by omega)).mpr (by omega)) z)
      refine V_iload_n dX7_areLike_65 rfl ?_
      refine V_zret dX7_areLike_66 rfl (by first | rfl | exact bI_nar) rfl rfl ?_
      exact Rw_i rfl rfl
    | succ m ih =>
      intro k hk
      refine V_iload dX7_areLike_22 rfl ?_
      refine V_aload_n dX7_areLike_24 rfl ?_
      refine V_iload_n dX7_areLike_25 rfl ?_
      refine V_callVw dX7_areLike_26 kX7_60 ykX7_sizeOf (by decide) rfl rfl (tX7_sizeOf (by omega)) rfl (Nat.le_of_ble_eq_true rfl) ⟨by decide, by decide, by decide, by decide⟩ ?_
      rw [hli]
      refine V_icmp_ge dX7_areLike_29 (fun z => absurd z (fun z => absurd ((cle (by repeat (first | with_reducible rfl | with_reducible exact nlit | with_reducible apply nadd | with_reducible apply nmul | with_reducible apply nsub | with_reducible assumption | omega)) (by repeat (first | with_reducible rfl | with_reducible exact nlit | with_reducible apply nadd | with_reducible apply nmul | with_reducible apply nsub | with_reducible assumption | omega)) (by omega) (by omega)).mp z) (by omega))) (fun _ => ?_)
      refine V_iload_n dX7_areLike_32 rfl ?_
      by_cases hu : likeU (C 106) i j li lj k
      · refine V_if_eq dX7_areLike_33 (fun z => absurd z (bI_ne0.mpr hu)) (fun _ => ?_)
        refine V_aload_n dX7_areLike_36 rfl ?_
        refine V_iload_n dX7_areLike_37 rfl ?_
        refine V_iload dX7_areLike_38 rfl ?_
        refine V_callVw dX7_areLike_40 kX7_71 ykX7_verbOf (by decide) rfl rfl (tX7_verbOf (by omega) (by omega)) rfl (Nat.le_of_ble_eq_true rfl) ⟨by decide, by decide, by decide, by decide⟩ ?_
        refine V_aload_n dX7_areLike_43 rfl ?_
        refine V_iload_n dX7_areLike_44 rfl ?_
        refine V_iload dX7_areLike_45 rfl ?_
        refine V_callVw dX7_areLike_47 kX7_71 ykX7_verbOf (by decide) rfl rfl (tX7_verbOf (by omega) (by omega)) rfl (Nat.le_of_ble_eq_true rfl) ⟨by decide, by decide, by decide, by decide⟩ ?_
        have e : likeU (C 106) i j li lj (k + 1) ↔ C 106 (38 + 25 * i + 1 + 2 * k) = C 106 (38 + 25 * j + 1 + 2 * k) := by
          refine ⟨fun q => q.2 k (by omega), fun q => ⟨hu.1, fun m hm => ?_⟩⟩
          rcases Nat.lt_or_ge m k with z | z
          · exact hu.2 m z
          · obtain rfl : m = k := by omega
            exact q
        refine V_icmp_ne dX7_areLike_50 (fun c50 => ?_) (fun c50 => ?_)
        · refine V_iconst (v := 0) dX7_areLike_57 (by decide) ?_
          refine V_istore_n dX7_areLike_58 (by decide) (by dsimp only [List.set] <;> rfl) ?_
          refine V_iinc dX7_areLike_59 rfl (ninc _) (by decide) (by dsimp only [List.set] <;> rfl) ?_
          refine V_goto dX7_areLike_62 ?_
          have := ih (k + 1) (by omega)
          rw [bI_f (fun z => c50 (e.mp z))] at this
          exact this
        · refine V_iconst (v := 1) dX7_areLike_53 (by decide) ?_
          refine V_goto dX7_areLike_54 ?_
          refine V_istore_n dX7_areLike_58 (by decide) (by dsimp only [List.set] <;> rfl) ?_
          refine V_iinc dX7_areLike_59 rfl (ninc _) (by decide) (by dsimp only [List.set] <;> rfl) ?_
          refine V_goto dX7_areLike_62 ?_
          have := ih (k + 1) (by omega)
          rw [bI_t (e.mpr c50)] at this
          exact this
      · refine V_if_eq dX7_areLike_33 (fun _ => ?_) (fun z => absurd (bI_f hu) z)
        refine V_iload_n dX7_areLike_65 rfl ?_
        refine V_zret dX7_areLike_66 rfl (by first | rfl | exact bI_nar) rfl rfl ?_
        refine Rw_i ?_ rfl
        rw [bI_f hu, bI_f (fun q => hu ⟨q.1, fun m hm => q.2 m (by omega)⟩)]
  refine V_aload_n dX7_areLike_0 rfl ?_
  refine V_iload_n dX7_areLike_1 rfl ?_
  refine V_callVw dX7_areLike_2 kX7_60 ykX7_sizeOf (by decide) rfl rfl (tX7_sizeOf (by omega)) rfl (Nat.le_of_ble_eq_true rfl) ⟨by decide, by decide, by decide, by decide⟩ ?_
  rw [hli]
  refine V_aload_n dX7_areLike_5 rfl ?_
  refine V_iload_n dX7_areLike_6 rfl ?_
  refine V_callVw dX7_areLike_7 kX7_60 ykX7_sizeOf (by decide) rfl rfl (tX7_sizeOf (by omega)) rfl (Nat.le_of_ble_eq_true rfl) ⟨by decide, by decide, by decide, by decide⟩ ?_
  rw [hlj]
  have e : likeU (C 106) i j li lj 0 ↔ li = lj := ⟨fun q => q.1, fun q => ⟨q, fun m hm => absurd hm (by omega)⟩⟩
  by_cases he : li = lj
  · refine V_icmp_ne dX7_areLike_10 (fun z => absurd z (fun z => z ((ceq (by repeat (first | with_reducible rfl | with_reducible exact nlit | with_reducible apply nadd | with_reducible apply nmul | with_reducible apply nsub | with_reducible assumption | omega)) (by repeat (first | with_reducible rfl | with_reducible exact nlit | with_reducible apply nadd | with_reducible apply nmul | with_reducible apply nsub | with_reducible assumption | omega)) (by omega) (by omega)).mpr (by omega)))) (fun _ => ?_)
    refine V_iconst (v := 1) dX7_areLike_13 (by decide) ?_
    refine V_goto dX7_areLike_14 ?_
    refine V_istore_n dX7_areLike_18 (by decide) (by dsimp only [List.set] <;> rfl) ?_
    refine V_iconst (v := 0) dX7_areLike_19 (by decide) ?_
    refine V_istore dX7_areLike_20 (by decide) (by dsimp only [List.set] <;> rfl) ?_
    have := key li 0 (by omega)
    rw [bI_t (e.mpr he)] at this
    exact this
  · refine V_icmp_ne dX7_areLike_10 (fun _ => ?_) (fun z => absurd z ((fun z => absurd ((ceq (by repeat (first | with_reducible rfl | with_reducible exact nlit | with_reducible apply nadd | with_reducible apply nmul | with_reducible apply nsub | with_reducible assumption | omega)) (by repeat (first | with_reducible rfl | with_reducible exact nlit | with_reducible apply nadd | with_reducible apply nmul | with_reducible apply nsub | with_reducible assumption | omega)) (by omega) (by omega)).mp z) (by omega))))
    refine V_iconst (v := 0) dX7_areLike_17 (by decide) ?_
    refine V_istore_n dX7_areLike_18 (by decide) (by dsimp only [List.set] <;> rfl) ?_
    refine V_iconst (v := 0) dX7_areLike_19 (by decide) ?_
    refine V_istore dX7_areLike_20 (by decide) (by dsimp only [List.set] <;> rfl) ?_
    have := key li 0 (by omega)
    rw [bI_f (fun z => he (e.mp z))] at this
    exact this
set_option maxHeartbeats 4000000 in
theorem tX7_generalise_o {tc : Nat} (x1 x2 : Int32) (h31 : C 106 31 = nI tc) (htc : tc ≤ 6) (hx : ¬ (isIx x1 tc ∧ isIx x2 tc)) : Ct G l yX7_generalise cX7_generalise 5 (some .int) 2 0 0 sz [.ref (a + 105), .int x1, .int x2] (B G a C) (Rw G a (.int (-1)) C) := by
  refine Ct.of (own := RX7) (mn := "generalise") (L0 := [some (.ref (a + 105)), some (.int x1), some (.int x2), none, none]) (by decide +kernel) rfl rfl rfl (Nat.le_of_ble_eq_true rfl) rfl ?_
  refine V_aload_n dX7_generalise_0 rfl ?_
  refine V_iload_n dX7_generalise_1 rfl ?_
  refine V_callVw dX7_generalise_2 kX7_67 ykX7_isTry (by decide) rfl rfl (tX7_isTry _ h31 (by omega)) rfl (Nat.le_of_ble_eq_true rfl) ⟨by decide, by decide, by decide, by decide⟩ ?_
  by_cases h1 : isIx x1 tc
  · refine V_if_eq dX7_generalise_5 (fun z => absurd z (bI_ne0.mpr h1)) (fun _ => ?_)
    refine V_aload_n dX7_generalise_8 rfl ?_
    refine V_iload_n dX7_generalise_9 rfl ?_
    refine V_callVw dX7_generalise_10 kX7_67 ykX7_isTry (by decide) rfl rfl (tX7_isTry _ h31 (by omega)) rfl (Nat.le_of_ble_eq_true rfl) ⟨by decide, by decide, by decide, by decide⟩ ?_
    refine V_if_ne dX7_generalise_13 (fun z => absurd z (fun z => z (bI_f (fun q => hx ⟨h1, q⟩)))) (fun _ => ?_)
    refine V_iconst (v := (-1)) dX7_generalise_16 (by decide) ?_
    refine V_iret dX7_generalise_17 rfl rfl rfl ?_
    exact Rw_i rfl rfl
  · refine V_if_eq dX7_generalise_5 (fun _ => ?_) (fun z => absurd (bI_f h1) z)
    refine V_iconst (v := (-1)) dX7_generalise_16 (by decide) ?_
    refine V_iret dX7_generalise_17 rfl rfl rfl ?_
    exact Rw_i rfl rfl
set_option maxHeartbeats 4000000 in
def zGen (z : Nat → Int32) (lc i j li : Nat) : Nat → Int32 := stB (zNL z lc i li 2) (213 + 38 * lc) (fun k => z (38 + 25 * j + 2 + 2 * k) - z (38 + 25 * i + 2 + 2 * k)) li
theorem zNL_lo {z : Nat → Int32} {lc n s j : Nat} {t : Int32} (hj : j < 213) (h33 : j ≠ 33) : zNL z lc n s t j = z j := by
  unfold zNL
  rw [pk_un h33, nlB_o (by omega), pk_un (by omega), pk_un (by omega)]
set_option maxHeartbeats 4000000 in
theorem tX7_generalise {st tc lc i j li lj : Nat} (hst : st ≤ 4) (h0 : C 105 0 = nI st) (h31 : C 106 31 = nI tc) (htc : tc ≤ 6) (h33 : C 106 33 = nI lc) (hlc : lc ≤ 6) (hi : i < tc) (hj : j < tc) (hli : C 106 (38 + 25 * i) = nI li) (hlj : C 106 (38 + 25 * j) = nI lj) (h1 : li ≤ 12) (h2 : lj ≤ 12) : Ct G l yX7_generalise cX7_generalise 5 (some .int) 2 0 0 sz [.ref (a + 105), .int (nI i), .int (nI j)] (B G a C) (Rw G a (.int (if ¬ (i ≠ j ∧ likeU (C 106) i j li lj li) then -4 else if lc = 6 then -3 else nI lc)) (if ¬ (i ≠ j ∧ likeU (C 106) i j li lj li) then C else if lc = 6 then C else mset (mSave C st) 106 (zGen (C 106) lc i j li))) := by
  refine Ct.of (own := RX7) (mn := "generalise") (L0 := [some (.ref (a + 105)), some (.int (nI i)), some (.int (nI j)), none, none]) (by decide +kernel) rfl rfl rfl (Nat.le_of_ble_eq_true rfl) rfl ?_
  refine V_aload_n dX7_generalise_0 rfl ?_
  refine V_iload_n dX7_generalise_1 rfl ?_
  refine V_callVw dX7_generalise_2 kX7_67 ykX7_isTry (by decide) rfl rfl (tX7_isTry _ h31 (by omega)) rfl (Nat.le_of_ble_eq_true rfl) ⟨by decide, by decide, by decide, by decide⟩ ?_
  refine V_if_eq dX7_generalise_5 (fun z => absurd z (bI_ne0.mpr (isIx_nI hi (by omega)))) (fun _ => ?_)
  refine V_aload_n dX7_generalise_8 rfl ?_
  refine V_iload_n dX7_generalise_9 rfl ?_
  refine V_callVw dX7_generalise_10 kX7_67 ykX7_isTry (by decide) rfl rfl (tX7_isTry _ h31 (by omega)) rfl (Nat.le_of_ble_eq_true rfl) ⟨by decide, by decide, by decide, by decide⟩ ?_
  refine V_if_ne dX7_generalise_13 (fun _ => ?_) (fun z => absurd z ((bI_ne0.mpr (isIx_nI hj (by omega)))))
  refine V_iload_n dX7_generalise_18 rfl ?_
  refine V_iload_n dX7_generalise_19 rfl ?_
  by_cases hij : i = j
  · refine V_icmp_eq dX7_generalise_20 (fun _ => ?_) (fun z => absurd ((ceq (by repeat (first | with_reducible rfl | with_reducible exact nlit | with_reducible apply nadd | with_reducible apply nmul | with_reducible apply nsub | with_reducible assumption | omega)) (by repeat (first | with_reducible rfl | with_reducible exact nlit | with_reducible apply nadd | with_reducible apply nmul | with_reducible apply nsub | with_reducible assumption | omega)) (by omega) (by omega)).mpr (by omega)) z)
    refine V_bipush (v := (-4)) dX7_generalise_32 (by decide) ?_
    refine V_iret dX7_generalise_34 rfl rfl rfl ?_
    exact Rw_i (by rw [if_pos (fun z => z.1 hij)]) (by rw [if_pos (fun z => z.1 hij)])
  refine V_icmp_eq dX7_generalise_20 (fun z => absurd z (fun z => absurd ((ceq (by repeat (first | with_reducible rfl | with_reducible exact nlit | with_reducible apply nadd | with_reducible apply nmul | with_reducible apply nsub | with_reducible assumption | omega)) (by repeat (first | with_reducible rfl | with_reducible exact nlit | with_reducible apply nadd | with_reducible apply nmul | with_reducible apply nsub | with_reducible assumption | omega)) (by omega) (by omega)).mp z) (by omega))) (fun _ => ?_)
  refine V_aload_n dX7_generalise_23 rfl ?_
  refine V_iload_n dX7_generalise_24 rfl ?_
  refine V_iload_n dX7_generalise_25 rfl ?_
  refine V_callVw dX7_generalise_26 kX7_78 ykX7_areLike (by decide) rfl rfl (tX7_areLike (by omega) (by omega) hli hlj h1 h2) rfl (Nat.le_of_ble_eq_true rfl) ⟨by decide, by decide, by decide, by decide⟩ ?_
  by_cases hu : likeU (C 106) i j li lj li
  rotate_left
  · refine V_if_ne dX7_generalise_29 (fun z => absurd z (fun z => z (bI_f hu))) (fun _ => ?_)
    refine V_bipush (v := (-4)) dX7_generalise_32 (by decide) ?_
    refine V_iret dX7_generalise_34 rfl rfl rfl ?_
    exact Rw_i (by rw [if_pos (fun z => hu z.2)]) (by rw [if_pos (fun z => hu z.2)])
  refine V_if_ne dX7_generalise_29 (fun _ => ?_) (fun z => absurd z ((bI_ne0.mpr hu)))
  have hn : ¬ ¬ (i ≠ j ∧ likeU (C 106) i j li lj li) := fun z => z ⟨hij, hu⟩
  refine V_aload_n dX7_generalise_35 rfl ?_
  refine V_bget dX7_generalise_36 fX7_7 (by decide) rfl (by (try simp only [mset_s, mset_n, pk_us, pk_un, ne_eq, Nat.reduceEqDiff, Nat.reduceAdd, not_false_eq_true, not_true_eq_false]) <;> rfl) ?_
  refine V_bipush (v := 33) dX7_generalise_39 (by decide) ?_
  refine V_biald dX7_generalise_41 (by decide) rfl (by repeat (first | with_reducible rfl | with_reducible exact nlit | with_reducible apply nadd | with_reducible apply nmul | with_reducible apply nsub | with_reducible assumption | omega)) (by omega) (by first | decide | omega) (by (try simp only [mset_s, mset_n, pk_us, pk_un, ne_eq, Nat.reduceEqDiff, Nat.reduceAdd, not_false_eq_true, not_true_eq_false]) <;> rfl) ?_
  rw [h33]
  refine V_bipush (v := 6) dX7_generalise_42 (by decide) ?_
  by_cases h6 : lc = 6
  · refine V_icmp_ne dX7_generalise_44 (fun z => absurd z (fun z => z ((ceq (by repeat (first | with_reducible rfl | with_reducible exact nlit | with_reducible apply nadd | with_reducible apply nmul | with_reducible apply nsub | with_reducible assumption | omega)) (by repeat (first | with_reducible rfl | with_reducible exact nlit | with_reducible apply nadd | with_reducible apply nmul | with_reducible apply nsub | with_reducible assumption | omega)) (by omega) (by omega)).mpr (by omega)))) (fun _ => ?_)
    refine V_bipush (v := (-3)) dX7_generalise_47 (by decide) ?_
    refine V_iret dX7_generalise_49 rfl rfl rfl ?_
    exact Rw_i (by rw [if_neg hn, if_pos h6]) (by rw [if_neg hn, if_pos h6])
  refine V_icmp_ne dX7_generalise_44 (fun _ => ?_) (fun z => absurd z ((fun z => absurd ((ceq (by repeat (first | with_reducible rfl | with_reducible exact nlit | with_reducible apply nadd | with_reducible apply nmul | with_reducible apply nsub | with_reducible assumption | omega)) (by repeat (first | with_reducible rfl | with_reducible exact nlit | with_reducible apply nadd | with_reducible apply nmul | with_reducible apply nsub | with_reducible assumption | omega)) (by omega) (by omega)).mp z) (by omega))))
  refine V_aload_n dX7_generalise_50 rfl ?_
  refine V_callVu dX7_generalise_51 kX7_53 ykX7_save (by decide) rfl rfl (tX7_save hst h0) rfl (Nat.le_of_ble_eq_true rfl) ⟨by decide, by decide, by decide, by decide⟩ ?_
  refine V_aload_n dX7_generalise_54 rfl ?_
  refine V_iload_n dX7_generalise_55 rfl ?_
  refine V_aload_n dX7_generalise_56 rfl ?_
  refine V_iload_n dX7_generalise_57 rfl ?_
  refine V_callVw dX7_generalise_58 kX7_60 ykX7_sizeOf (by decide) rfl rfl (tX7_sizeOf (by omega)) rfl (Nat.le_of_ble_eq_true rfl) ⟨by decide, by decide, by decide, by decide⟩ ?_
  rw [mSave_z, hli]
  refine V_iconst (v := 2) dX7_generalise_61 (by decide) ?_
  refine V_callVw dX7_generalise_62 kX7_81 ykX7_newLoop (by decide) rfl rfl (tX7_newLoop _ (by rw [mSave_z]; exact h33) (by omega) (by omega) h1) rfl (Nat.le_of_ble_eq_true rfl) ⟨by decide, by decide, by decide, by decide⟩ ?_
  rw [mSave_z]
  have key : ∀ (m k : Nat), k + m = li → V G l RX7 "generalise" cX7_generalise 5 (some .int) (rmd 2 0 0) E0 (Qm G (Rw G a (.int (if ¬ (i ≠ j ∧ likeU (C 106) i j li lj li) then -4 else if lc = 6 then -3 else nI lc)) (if ¬ (i ≠ j ∧ likeU (C 106) i j li lj li) then C else if lc = 6 then C else mset (mSave C st) 106 (zGen (C 106) lc i j li))) sz 0 0) sz 0 0 69 [some (.ref (a + 105)), some (.int (nI i)), some (.int (nI j)), some (.int (nI lc)), some (.int (nI k))] [] (B G a (mset (mSave C st) 106 (stB (zNL (C 106) lc i li 2) (213 + 38 * lc) (fun k => C 106 (38 + 25 * j + 2 + 2 * k) - C 106 (38 + 25 * i + 2 + 2 * k)) k))) := by
    intro m
    induction m with
    | zero =>
      intro k hk
      obtain rfl : k = li := by omega
      refine V_iload dX7_generalise_69 rfl ?_
      refine V_aload_n dX7_generalise_71 rfl ?_
      refine V_iload_n dX7_generalise_72 rfl ?_
      refine V_callVw dX7_generalise_73 kX7_60 ykX7_sizeOf (by decide) rfl rfl (tX7_sizeOf (by omega)) rfl (Nat.le_of_ble_eq_true rfl) ⟨by decide, by decide, by decide, by decide⟩ ?_
      rw [mset_s, stB_o (by omega), zNL_lo (by omega) (by omega), hli]
      refine V_icmp_ge dX7_generalise_76 (fun _ => ?_) (fun z => absurd ((cle (by repeat (first | with_reducible rfl | with_reducible exact nlit | with_reducible apply nadd | with_reducible apply nmul | with_reducible apply nsub | with_reducible assumption | omega)) (by repeat (first | with_reducible rfl | with_reducible exact nlit | with_reducible apply nadd | with_reducible apply nmul | with_reducible apply nsub | with_reducible assumption | omega)) (by omega) (by omega)).mpr (by omega)) z)
      refine V_iload_n dX7_generalise_107 rfl ?_
      refine V_iret dX7_generalise_108 rfl rfl rfl ?_
      exact Rw_i (by rw [if_neg hn, if_neg h6]) (by rw [if_neg hn, if_neg h6]; rfl)
    | succ m ih =>
      intro k hk
      refine V_iload dX7_generalise_69 rfl ?_
      refine V_aload_n dX7_generalise_71 rfl ?_
      refine V_iload_n dX7_generalise_72 rfl ?_
      refine V_callVw dX7_generalise_73 kX7_60 ykX7_sizeOf (by decide) rfl rfl (tX7_sizeOf (by omega)) rfl (Nat.le_of_ble_eq_true rfl) ⟨by decide, by decide, by decide, by decide⟩ ?_
      rw [mset_s, stB_o (by omega), zNL_lo (by omega) (by omega), hli]
      refine V_icmp_ge dX7_generalise_76 (fun z => absurd z (fun z => absurd ((cle (by repeat (first | with_reducible rfl | with_reducible exact nlit | with_reducible apply nadd | with_reducible apply nmul | with_reducible apply nsub | with_reducible assumption | omega)) (by repeat (first | with_reducible rfl | with_reducible exact nlit | with_reducible apply nadd | with_reducible apply nmul | with_reducible apply nsub | with_reducible assumption | omega)) (by omega) (by omega)).mp z) (by omega))) (fun _ => ?_)
      refine V_aload_n dX7_generalise_79 rfl ?_
      refine V_iload_n dX7_generalise_80 rfl ?_
      refine V_iload dX7_generalise_81 rfl ?_
      refine V_aload_n dX7_generalise_83 rfl ?_
      refine V_iload_n dX7_generalise_84 rfl ?_
      refine V_iload dX7_generalise_85 rfl ?_
      refine V_callVw dX7_generalise_87 kX7_75 ykX7_numberOf (by decide) rfl rfl (tX7_numberOf (by omega) (by omega)) rfl (Nat.le_of_ble_eq_true rfl) ⟨by decide, by decide, by decide, by decide⟩ ?_
      rw [mset_s, stB_o (by omega), zNL_lo (by omega) (by omega)]
      refine V_aload_n dX7_generalise_90 rfl ?_
      refine V_iload_n dX7_generalise_91 rfl ?_
      refine V_iload dX7_generalise_92 rfl ?_
      refine V_callVw dX7_generalise_94 kX7_75 ykX7_numberOf (by decide) rfl rfl (tX7_numberOf (by omega) (by omega)) rfl (Nat.le_of_ble_eq_true rfl) ⟨by decide, by decide, by decide, by decide⟩ ?_
      rw [mset_s, stB_o (by omega), zNL_lo (by omega) (by omega)]
      refine V_isub dX7_generalise_97 ?_
      refine V_callVu dX7_generalise_98 kX7_85 ykX7_stride (by decide) rfl rfl (tX7_stride _ (by omega) (by omega)) rfl (Nat.le_of_ble_eq_true rfl) ⟨by decide, by decide, by decide, by decide⟩ ?_
      refine V_iinc dX7_generalise_101 rfl (ninc _) (by decide) (by dsimp only [List.set] <;> rfl) ?_
      refine V_goto dX7_generalise_104 ?_
      simp only [mset_s, mset_ss]
      exact ih (k + 1) (by omega)
  refine V_istore_n dX7_generalise_65 (by decide) (by dsimp only [List.set] <;> rfl) ?_
  refine V_iconst (v := 0) dX7_generalise_66 (by decide) ?_
  refine V_istore dX7_generalise_67 (by decide) (by dsimp only [List.set] <;> rfl) ?_
  exact key li 0 (by omega)
end MODEL
