/-! Shelf. -/
theorem ShK.W {G : GT} {a q W N : Nat} (h : ShK G a q W N) : W ≤ 400 := Nat.le_trans (Nat.le_mul_of_pos_right W h.2.2.2.2.2.2.2.2.1) h.2.1
theorem ShK.N {G : GT} {a q W N : Nat} (h : ShK G a q W N) : N ≤ 400 := Nat.le_trans (Nat.le_mul_of_pos_left N h.2.2.2.2.2.2.2.2.2) h.2.1
theorem ShK.b {G : GT} {a q W N : Nat} (h : ShK G a q W N) : q + 6 ≤ 105 := h.1
theorem ShK.o {G : GT} {a q W N : Nat} (h : ShK G a q W N) (f : Nat → Int32) : kE G a q f = shE G a q W f := h.2.2.1 f
theorem ShK.k1 {G : GT} {a q W N : Nat} (h : ShK G a q W N) (f : Nat → Int32) : kE G a (q + 1) f = iA G (W * N) f := h.2.2.2.1 f
theorem ShK.k2 {G : GT} {a q W N : Nat} (h : ShK G a q W N) (f : Nat → Int32) : kE G a (q + 2) f = iA G (W * N) f := h.2.2.2.2.1 f
theorem ShK.k3 {G : GT} {a q W N : Nat} (h : ShK G a q W N) (f : Nat → Int32) : kE G a (q + 3) f = iA G (W * N) f := h.2.2.2.2.2.1 f
theorem ShK.k4 {G : GT} {a q W N : Nat} (h : ShK G a q W N) (f : Nat → Int32) : kE G a (q + 4) f = iA G N f := h.2.2.2.2.2.2.1 f
theorem ShK.k5 {G : GT} {a q W N : Nat} (h : ShK G a q W N) (f : Nat → Int32) : kE G a (q + 5) f = iA G N f := h.2.2.2.2.2.2.2.1 f
theorem sh_ix {n k W N : Nat} (hn : n < N) (hk : k < W) : n * W + k < W * N := by
  have h1 : (n + 1) * W ≤ N * W := Nat.mul_le_mul_right W hn
  rw [Nat.add_mul, Nat.one_mul] at h1
  rw [Nat.mul_comm W N]
  omega
theorem isIx_nl {x : Int32} {n : Nat} (hn : n < 2147483648) : isIx x n ↔ ¬ x < 0 ∧ ¬ nI n ≤ x := by
  unfold isIx
  rw [i_lt, i_le, nI_toInt hn]
  have : (0 : Int32).toInt = 0 := rfl
  omega
section CLS
variable {G : GT} {l : Launch} {sz a : Nat} {C : CT} {q W N : Nat}
theorem tX3_sizeOf {n : Nat} (hr : ShK G a q W N) (hn : n < N) : Ct G l yX3_sizeOf cX3_sizeOf 2 (some .int) 0 0 0 sz [.ref (a + q), .int (nI n)] (B G a C) (Rw G a (.int (C (q + 4) n)) C) := by
  have hN := hr.N
  refine Ct.of (own := RX3) (mn := "sizeOf") (L0 := [some (.ref (a + q)), some (.int (nI n))]) (by decide +kernel) rfl rfl rfl (Nat.le_of_ble_eq_true rfl) rfl ?_
  refine V_iload_n dX3_sizeOf_0 rfl ?_
  refine V_if_lt dX3_sizeOf_1 (fun z => absurd z (fun z => absurd ((clt (by repeat (first | with_reducible rfl | with_reducible exact nlit | with_reducible apply nadd | with_reducible apply nmul | with_reducible apply nsub | with_reducible assumption | omega)) (by repeat (first | with_reducible rfl | with_reducible exact nlit | with_reducible apply nadd | with_reducible apply nmul | with_reducible apply nsub | with_reducible assumption | omega)) (by omega) (by omega)).mp z) (by omega))) (fun _ => ?_)
  refine V_iload_n dX3_sizeOf_4 rfl ?_
  refine V_aload_n dX3_sizeOf_5 rfl ?_
  refine V_bget dX3_sizeOf_6 fX3_29 (by have := hr.b; omega) (hr.o _) (by (try simp only [mset_s, mset_n, pk_us, pk_un, ne_eq, Nat.reduceEqDiff, Nat.reduceAdd, not_false_eq_true, not_true_eq_false]) <;> rfl) ?_
  refine V_balen (v := nI _) dX3_sizeOf_9 (by have := hr.b; omega) (hr.k4 _) rfl ?_
  refine V_icmp_ge dX3_sizeOf_10 (fun z => absurd z (fun z => absurd ((cle (by repeat (first | with_reducible rfl | with_reducible exact nlit | with_reducible apply nadd | with_reducible apply nmul | with_reducible apply nsub | with_reducible assumption | omega)) (by repeat (first | with_reducible rfl | with_reducible exact nlit | with_reducible apply nadd | with_reducible apply nmul | with_reducible apply nsub | with_reducible assumption | omega)) (by omega) (by omega)).mp z) (by omega))) (fun _ => ?_)
  refine V_aload_n dX3_sizeOf_13 rfl ?_
  refine V_bget dX3_sizeOf_14 fX3_29 (by have := hr.b; omega) (hr.o _) (by (try simp only [mset_s, mset_n, pk_us, pk_un, ne_eq, Nat.reduceEqDiff, Nat.reduceAdd, not_false_eq_true, not_true_eq_false]) <;> rfl) ?_
  refine V_iload_n dX3_sizeOf_17 rfl ?_
  refine V_biald dX3_sizeOf_18 (by have := hr.b; omega) (hr.k4 _) (by repeat (first | with_reducible rfl | with_reducible exact nlit | with_reducible apply nadd | with_reducible apply nmul | with_reducible apply nsub | with_reducible assumption | omega)) (by omega) (by first | decide | omega) (by (try simp only [mset_s, mset_n, pk_us, pk_un, ne_eq, Nat.reduceEqDiff, Nat.reduceAdd, not_false_eq_true, not_true_eq_false]) <;> rfl) ?_
  refine V_goto dX3_sizeOf_19 ?_
  refine V_iret dX3_sizeOf_23 rfl rfl rfl ?_
  exact Rw_i rfl rfl
theorem tX3_turnsOf {n : Nat} (hr : ShK G a q W N) (hn : n < N) : Ct G l yX3_turnsOf cX3_turnsOf 2 (some .int) 0 0 0 sz [.ref (a + q), .int (nI n)] (B G a C) (Rw G a (.int (C (q + 5) n)) C) := by
  have hN := hr.N
  refine Ct.of (own := RX3) (mn := "turnsOf") (L0 := [some (.ref (a + q)), some (.int (nI n))]) (by decide +kernel) rfl rfl rfl (Nat.le_of_ble_eq_true rfl) rfl ?_
  refine V_iload_n dX3_turnsOf_0 rfl ?_
  refine V_if_lt dX3_turnsOf_1 (fun z => absurd z (fun z => absurd ((clt (by repeat (first | with_reducible rfl | with_reducible exact nlit | with_reducible apply nadd | with_reducible apply nmul | with_reducible apply nsub | with_reducible assumption | omega)) (by repeat (first | with_reducible rfl | with_reducible exact nlit | with_reducible apply nadd | with_reducible apply nmul | with_reducible apply nsub | with_reducible assumption | omega)) (by omega) (by omega)).mp z) (by omega))) (fun _ => ?_)
  refine V_iload_n dX3_turnsOf_4 rfl ?_
  refine V_aload_n dX3_turnsOf_5 rfl ?_
  refine V_bget dX3_turnsOf_6 fX3_32 (by have := hr.b; omega) (hr.o _) (by (try simp only [mset_s, mset_n, pk_us, pk_un, ne_eq, Nat.reduceEqDiff, Nat.reduceAdd, not_false_eq_true, not_true_eq_false]) <;> rfl) ?_
  refine V_balen (v := nI _) dX3_turnsOf_9 (by have := hr.b; omega) (hr.k5 _) rfl ?_
  refine V_icmp_ge dX3_turnsOf_10 (fun z => absurd z (fun z => absurd ((cle (by repeat (first | with_reducible rfl | with_reducible exact nlit | with_reducible apply nadd | with_reducible apply nmul | with_reducible apply nsub | with_reducible assumption | omega)) (by repeat (first | with_reducible rfl | with_reducible exact nlit | with_reducible apply nadd | with_reducible apply nmul | with_reducible apply nsub | with_reducible assumption | omega)) (by omega) (by omega)).mp z) (by omega))) (fun _ => ?_)
  refine V_aload_n dX3_turnsOf_13 rfl ?_
  refine V_bget dX3_turnsOf_14 fX3_32 (by have := hr.b; omega) (hr.o _) (by (try simp only [mset_s, mset_n, pk_us, pk_un, ne_eq, Nat.reduceEqDiff, Nat.reduceAdd, not_false_eq_true, not_true_eq_false]) <;> rfl) ?_
  refine V_iload_n dX3_turnsOf_17 rfl ?_
  refine V_biald dX3_turnsOf_18 (by have := hr.b; omega) (hr.k5 _) (by repeat (first | with_reducible rfl | with_reducible exact nlit | with_reducible apply nadd | with_reducible apply nmul | with_reducible apply nsub | with_reducible assumption | omega)) (by omega) (by first | decide | omega) (by (try simp only [mset_s, mset_n, pk_us, pk_un, ne_eq, Nat.reduceEqDiff, Nat.reduceAdd, not_false_eq_true, not_true_eq_false]) <;> rfl) ?_
  refine V_goto dX3_turnsOf_19 ?_
  refine V_iret dX3_turnsOf_23 rfl rfl rfl ?_
  exact Rw_i rfl rfl
theorem tX3_look {n k j : Nat} (hr : ShK G a q W N) (hj : j < 105) (hk : ∀ f, kE G a j f = iA G (W * N) f) (hn : n < N) (hkW : k < W) : Ct G l yX3_look cX3_look 5 (some .int) 0 0 0 sz [.ref (a + q), .ref (a + j), .int (nI n), .int (nI k)] (B G a C) (Rw G a (.int (C j (n * W + k))) C) := by
  have hN := hr.N
  have hW := hr.W
  have hi := sh_ix hn hkW
  have h4 := hr.2.1
  refine Ct.of (own := RX3) (mn := "look") (L0 := [some (.ref (a + q)), some (.ref (a + j)), some (.int (nI n)), some (.int (nI k)), none]) (by decide +kernel) rfl rfl rfl (Nat.le_of_ble_eq_true rfl) rfl ?_
  refine V_iload_n dX3_look_0 rfl ?_
  refine V_aload_n dX3_look_1 rfl ?_
  refine V_bget dX3_look_2 fX3_13 (by have := hr.b; omega) (hr.o _) (by (try simp only [mset_s, mset_n, pk_us, pk_un, ne_eq, Nat.reduceEqDiff, Nat.reduceAdd, not_false_eq_true, not_true_eq_false]) <;> rfl) ?_
  refine V_imul dX3_look_5 ?_
  refine V_iload_n dX3_look_6 rfl ?_
  refine V_iadd dX3_look_7 ?_
  refine V_istore dX3_look_8 (by decide) (by dsimp only [List.set] <;> rfl) rfl ?_
  refine V_iload_n dX3_look_10 rfl ?_
  refine V_if_lt dX3_look_11 (fun z => absurd z (fun z => absurd ((clt (by repeat (first | with_reducible rfl | with_reducible exact nlit | with_reducible apply nadd | with_reducible apply nmul | with_reducible apply nsub | with_reducible assumption | omega)) (by repeat (first | with_reducible rfl | with_reducible exact nlit | with_reducible apply nadd | with_reducible apply nmul | with_reducible apply nsub | with_reducible assumption | omega)) (by omega) (by omega)).mp z) (by omega))) (fun _ => ?_)
  refine V_iload_n dX3_look_14 rfl ?_
  refine V_aload_n dX3_look_15 rfl ?_
  refine V_bget dX3_look_16 fX3_13 (by have := hr.b; omega) (hr.o _) (by (try simp only [mset_s, mset_n, pk_us, pk_un, ne_eq, Nat.reduceEqDiff, Nat.reduceAdd, not_false_eq_true, not_true_eq_false]) <;> rfl) ?_
  refine V_icmp_ge dX3_look_19 (fun z => absurd z (fun z => absurd ((cle (by repeat (first | with_reducible rfl | with_reducible exact nlit | with_reducible apply nadd | with_reducible apply nmul | with_reducible apply nsub | with_reducible assumption | omega)) (by repeat (first | with_reducible rfl | with_reducible exact nlit | with_reducible apply nadd | with_reducible apply nmul | with_reducible apply nsub | with_reducible assumption | omega)) (by omega) (by omega)).mp z) (by omega))) (fun _ => ?_)
  refine V_iload dX3_look_22 rfl ?_
  refine V_if_lt dX3_look_24 (fun z => absurd z (fun z => absurd ((clt (by repeat (first | with_reducible rfl | with_reducible exact nlit | with_reducible apply nadd | with_reducible apply nmul | with_reducible apply nsub | with_reducible assumption | omega)) (by repeat (first | with_reducible rfl | with_reducible exact nlit | with_reducible apply nadd | with_reducible apply nmul | with_reducible apply nsub | with_reducible assumption | omega)) (by omega) (by omega)).mp z) (by omega))) (fun _ => ?_)
  refine V_iload dX3_look_27 rfl ?_
  refine V_aload_n dX3_look_29 rfl ?_
  refine V_balen (v := nI _) dX3_look_30 hj (hk _) rfl ?_
  refine V_icmp_ge dX3_look_31 (fun z => absurd z (fun z => absurd ((cle (by repeat (first | with_reducible rfl | with_reducible exact nlit | with_reducible apply nadd | with_reducible apply nmul | with_reducible apply nsub | with_reducible assumption | omega)) (by repeat (first | with_reducible rfl | with_reducible exact nlit | with_reducible apply nadd | with_reducible apply nmul | with_reducible apply nsub | with_reducible assumption | omega)) (by omega) (by omega)).mp z) (by omega))) (fun _ => ?_)
  refine V_aload_n dX3_look_34 rfl ?_
  refine V_iload dX3_look_35 rfl ?_
  refine V_biald dX3_look_37 hj (hk _) (by repeat (first | with_reducible rfl | with_reducible exact nlit | with_reducible apply nadd | with_reducible apply nmul | with_reducible apply nsub | with_reducible assumption | omega)) (by omega) (by first | decide | omega) (by (try simp only [mset_s, mset_n, pk_us, pk_un, ne_eq, Nat.reduceEqDiff, Nat.reduceAdd, not_false_eq_true, not_true_eq_false]) <;> rfl) ?_
  refine V_goto dX3_look_38 ?_
  refine V_iret dX3_look_42 rfl rfl rfl ?_
  exact Rw_i rfl rfl
theorem tX3_verbAt {n k : Nat} (hr : ShK G a q W N) (hn : n < N) (hkW : k < W) : Ct G l yX3_verbAt cX3_verbAt 3 (some .int) 1 0 0 sz [.ref (a + q), .int (nI n), .int (nI k)] (B G a C) (Rw G a (.int (C (q + 1) (n * W + k))) C) := by
  refine Ct.of (own := RX3) (mn := "verbAt") (L0 := [some (.ref (a + q)), some (.int (nI n)), some (.int (nI k))]) (by decide +kernel) rfl rfl rfl (Nat.le_of_ble_eq_true rfl) rfl ?_
  refine V_aload_n dX3_verbAt_0 rfl ?_
  refine V_aload_n dX3_verbAt_1 rfl ?_
  refine V_bget dX3_verbAt_2 fX3_19 (by have := hr.b; omega) (hr.o _) (by (try simp only [mset_s, mset_n, pk_us, pk_un, ne_eq, Nat.reduceEqDiff, Nat.reduceAdd, not_false_eq_true, not_true_eq_false]) <;> rfl) ?_
  refine V_iload_n dX3_verbAt_5 rfl ?_
  refine V_iload_n dX3_verbAt_6 rfl ?_
  refine V_callVw dX3_verbAt_7 kX3_42 ykX3_look (by have := hr.b; omega) (hr.o _) rfl (tX3_look hr (by have := hr.b; omega) hr.k1 hn hkW) rfl (Nat.le_of_ble_eq_true rfl) ⟨by decide, by decide, by decide, by decide⟩ ?_
  refine V_iret dX3_verbAt_10 rfl rfl rfl ?_
  exact Rw_i rfl rfl
theorem tX3_numberAt {n k : Nat} (hr : ShK G a q W N) (hn : n < N) (hkW : k < W) : Ct G l yX3_numberAt cX3_numberAt 3 (some .int) 1 0 0 sz [.ref (a + q), .int (nI n), .int (nI k)] (B G a C) (Rw G a (.int (C (q + 2) (n * W + k))) C) := by
  refine Ct.of (own := RX3) (mn := "numberAt") (L0 := [some (.ref (a + q)), some (.int (nI n)), some (.int (nI k))]) (by decide +kernel) rfl rfl rfl (Nat.le_of_ble_eq_true rfl) rfl ?_
  refine V_aload_n dX3_numberAt_0 rfl ?_
  refine V_aload_n dX3_numberAt_1 rfl ?_
  refine V_bget dX3_numberAt_2 fX3_23 (by have := hr.b; omega) (hr.o _) (by (try simp only [mset_s, mset_n, pk_us, pk_un, ne_eq, Nat.reduceEqDiff, Nat.reduceAdd, not_false_eq_true, not_true_eq_false]) <;> rfl) ?_
  refine V_iload_n dX3_numberAt_5 rfl ?_
  refine V_iload_n dX3_numberAt_6 rfl ?_
  refine V_callVw dX3_numberAt_7 kX3_42 ykX3_look (by have := hr.b; omega) (hr.o _) rfl (tX3_look hr (by have := hr.b; omega) hr.k2 hn hkW) rfl (Nat.le_of_ble_eq_true rfl) ⟨by decide, by decide, by decide, by decide⟩ ?_
  refine V_iret dX3_numberAt_10 rfl rfl rfl ?_
  exact Rw_i rfl rfl
theorem tX3_strideAt {n k : Nat} (hr : ShK G a q W N) (hn : n < N) (hkW : k < W) : Ct G l yX3_strideAt cX3_strideAt 3 (some .int) 1 0 0 sz [.ref (a + q), .int (nI n), .int (nI k)] (B G a C) (Rw G a (.int (C (q + 3) (n * W + k))) C) := by
  refine Ct.of (own := RX3) (mn := "strideAt") (L0 := [some (.ref (a + q)), some (.int (nI n)), some (.int (nI k))]) (by decide +kernel) rfl rfl rfl (Nat.le_of_ble_eq_true rfl) rfl ?_
  refine V_aload_n dX3_strideAt_0 rfl ?_
  refine V_aload_n dX3_strideAt_1 rfl ?_
  refine V_bget dX3_strideAt_2 fX3_26 (by have := hr.b; omega) (hr.o _) (by (try simp only [mset_s, mset_n, pk_us, pk_un, ne_eq, Nat.reduceEqDiff, Nat.reduceAdd, not_false_eq_true, not_true_eq_false]) <;> rfl) ?_
  refine V_iload_n dX3_strideAt_5 rfl ?_
  refine V_iload_n dX3_strideAt_6 rfl ?_
  refine V_callVw dX3_strideAt_7 kX3_42 ykX3_look (by have := hr.b; omega) (hr.o _) rfl (tX3_look hr (by have := hr.b; omega) hr.k3 hn hkW) rfl (Nat.le_of_ble_eq_true rfl) ⟨by decide, by decide, by decide, by decide⟩ ?_
  refine V_iret dX3_strideAt_10 rfl rfl rfl ?_
  exact Rw_i rfl rfl
theorem tX3_numberInTurn {n k : Nat} {t : Int32} (hr : ShK G a q W N) (hn : n < N) (hkW : k < W) : Ct G l yX3_numberInTurn cX3_numberInTurn 4 (some .int) 2 0 0 sz [.ref (a + q), .int (nI n), .int (nI k), .int t] (B G a C) (Rw G a (.int (C (q + 2) (n * W + k) + t * C (q + 3) (n * W + k))) C) := by
  refine Ct.of (own := RX3) (mn := "numberInTurn") (L0 := [some (.ref (a + q)), some (.int (nI n)), some (.int (nI k)), some (.int t)]) (by decide +kernel) rfl rfl rfl (Nat.le_of_ble_eq_true rfl) rfl ?_
  refine V_aload_n dX3_numberInTurn_0 rfl ?_
  refine V_iload_n dX3_numberInTurn_1 rfl ?_
  refine V_iload_n dX3_numberInTurn_2 rfl ?_
  refine V_callVw dX3_numberInTurn_3 kX3_46 ykX3_numberAt (by have := hr.b; omega) (hr.o _) rfl (tX3_numberAt hr hn hkW) rfl (Nat.le_of_ble_eq_true rfl) ⟨by decide, by decide, by decide, by decide⟩ ?_
  refine V_iload_n dX3_numberInTurn_6 rfl ?_
  refine V_aload_n dX3_numberInTurn_7 rfl ?_
  refine V_iload_n dX3_numberInTurn_8 rfl ?_
  refine V_iload_n dX3_numberInTurn_9 rfl ?_
  refine V_callVw dX3_numberInTurn_10 kX3_49 ykX3_strideAt (by have := hr.b; omega) (hr.o _) rfl (tX3_strideAt hr hn hkW) rfl (Nat.le_of_ble_eq_true rfl) ⟨by decide, by decide, by decide, by decide⟩ ?_
  refine V_imul dX3_numberInTurn_13 ?_
  refine V_iadd dX3_numberInTurn_14 ?_
  refine V_iret dX3_numberInTurn_15 rfl rfl rfl ?_
  exact Rw_i rfl rfl
theorem tX3_hasPlace {x0 : Int32} (hr : ShK G a q W N) : Ct G l yX3_hasPlace cX3_hasPlace 2 (some .boolean) 0 0 0 sz [.ref (a + q), .int x0] (B G a C) (Rw G a (.int (bI (isIx x0 N))) C) := by
  have hN := hr.N
  have e := isIx_nl (x := x0) (n := N) (by omega)
  refine Ct.of (own := RX3) (mn := "hasPlace") (L0 := [some (.ref (a + q)), some (.int x0)]) (by decide +kernel) rfl rfl rfl (Nat.le_of_ble_eq_true rfl) rfl ?_
  refine V_iload_n dX3_hasPlace_0 rfl ?_
  refine V_if_lt dX3_hasPlace_1 (fun c1 => ?_) (fun c1 => ?_)
  · refine V_iconst (v := 0) dX3_hasPlace_17 (by decide) ?_
    refine V_zret dX3_hasPlace_18 rfl (by first | rfl | exact bI_nar) rfl rfl ?_
    exact Rw_i (bI_f (fun z => (e.mp z).1 c1)).symm rfl
  · refine V_iload_n dX3_hasPlace_4 rfl ?_
    refine V_aload_n dX3_hasPlace_5 rfl ?_
    refine V_bget dX3_hasPlace_6 fX3_29 (by have := hr.b; omega) (hr.o _) (by (try simp only [mset_s, mset_n, pk_us, pk_un, ne_eq, Nat.reduceEqDiff, Nat.reduceAdd, not_false_eq_true, not_true_eq_false]) <;> rfl) ?_
    refine V_balen (v := nI _) dX3_hasPlace_9 (by have := hr.b; omega) (hr.k4 _) rfl ?_
    refine V_icmp_ge dX3_hasPlace_10 (fun c10 => ?_) (fun c10 => ?_)
    · refine V_iconst (v := 0) dX3_hasPlace_17 (by decide) ?_
      refine V_zret dX3_hasPlace_18 rfl (by first | rfl | exact bI_nar) rfl rfl ?_
      exact Rw_i (bI_f (fun z => (e.mp z).2 c10)).symm rfl
    · refine V_iconst (v := 1) dX3_hasPlace_13 (by decide) ?_
      refine V_goto dX3_hasPlace_14 ?_
      refine V_zret dX3_hasPlace_18 rfl (by first | rfl | exact bI_nar) rfl rfl ?_
      exact Rw_i (bI_t (e.mpr ⟨c1, c10⟩)).symm rfl
theorem tX3_holds {x0 : Int32} {cnt : Nat} (hr : ShK G a q W N) (h0 : C q 0 = nI cnt) (hcnt : cnt < 2147483648) : Ct G l yX3_holds cX3_holds 2 (some .boolean) 0 0 0 sz [.ref (a + q), .int x0] (B G a C) (Rw G a (.int (bI (isIx x0 cnt))) C) := by
  have e := isIx_nl (x := x0) (n := cnt) hcnt
  refine Ct.of (own := RX3) (mn := "holds") (L0 := [some (.ref (a + q)), some (.int x0)]) (by decide +kernel) rfl rfl rfl (Nat.le_of_ble_eq_true rfl) rfl ?_
  refine V_iload_n dX3_holds_0 rfl ?_
  refine V_if_lt dX3_holds_1 (fun c1 => ?_) (fun c1 => ?_)
  · refine V_iconst (v := 0) dX3_holds_16 (by decide) ?_
    refine V_zret dX3_holds_17 rfl (by first | rfl | exact bI_nar) rfl rfl ?_
    exact Rw_i (bI_f (fun z => (e.mp z).1 c1)).symm rfl
  · refine V_iload_n dX3_holds_4 rfl ?_
    refine V_aload_n dX3_holds_5 rfl ?_
    refine V_bget dX3_holds_6 fX3_35 (by have := hr.b; omega) (hr.o _) (by (try simp only [mset_s, mset_n, pk_us, pk_un, ne_eq, Nat.reduceEqDiff, Nat.reduceAdd, not_false_eq_true, not_true_eq_false]) <;> rfl) ?_
    rw [h0]
    refine V_icmp_ge dX3_holds_9 (fun c9 => ?_) (fun c9 => ?_)
    · refine V_iconst (v := 0) dX3_holds_16 (by decide) ?_
      refine V_zret dX3_holds_17 rfl (by first | rfl | exact bI_nar) rfl rfl ?_
      exact Rw_i (bI_f (fun z => (e.mp z).2 c9)).symm rfl
    · refine V_iconst (v := 1) dX3_holds_12 (by decide) ?_
      refine V_goto dX3_holds_13 ?_
      refine V_zret dX3_holds_17 rfl (by first | rfl | exact bI_nar) rfl rfl ?_
      exact Rw_i (bI_t (e.mpr ⟨c1, c9⟩)).symm rfl
theorem tX3_isFull {cnt : Nat} (hr : ShK G a q W N) (h0 : C q 0 = nI cnt) (hcnt : cnt ≤ N) : Ct G l yX3_isFull cX3_isFull 1 (some .boolean) 0 0 0 sz [.ref (a + q)] (B G a C) (Rw G a (.int (bI (cnt = N))) C) := by
  have hN := hr.N
  refine Ct.of (own := RX3) (mn := "isFull") (L0 := [some (.ref (a + q))]) (by decide +kernel) rfl rfl rfl (Nat.le_of_ble_eq_true rfl) rfl ?_
  refine V_aload_n dX3_isFull_0 rfl ?_
  refine V_bget dX3_isFull_1 fX3_35 (by have := hr.b; omega) (hr.o _) (by (try simp only [mset_s, mset_n, pk_us, pk_un, ne_eq, Nat.reduceEqDiff, Nat.reduceAdd, not_false_eq_true, not_true_eq_false]) <;> rfl) ?_
  rw [h0]
  refine V_aload_n dX3_isFull_4 rfl ?_
  refine V_bget dX3_isFull_5 fX3_29 (by have := hr.b; omega) (hr.o _) (by (try simp only [mset_s, mset_n, pk_us, pk_un, ne_eq, Nat.reduceEqDiff, Nat.reduceAdd, not_false_eq_true, not_true_eq_false]) <;> rfl) ?_
  refine V_balen (v := nI _) dX3_isFull_8 (by have := hr.b; omega) (hr.k4 _) rfl ?_
  by_cases h : cnt = N
  · refine V_icmp_lt dX3_isFull_9 (fun z => absurd z (fun z => absurd ((clt (by repeat (first | with_reducible rfl | with_reducible exact nlit | with_reducible apply nadd | with_reducible apply nmul | with_reducible apply nsub | with_reducible assumption | omega)) (by repeat (first | with_reducible rfl | with_reducible exact nlit | with_reducible apply nadd | with_reducible apply nmul | with_reducible apply nsub | with_reducible assumption | omega)) (by omega) (by omega)).mp z) (by omega))) (fun _ => ?_)
    refine V_iconst (v := 1) dX3_isFull_12 (by decide) ?_
    refine V_goto dX3_isFull_13 ?_
    refine V_zret dX3_isFull_17 rfl (by first | rfl | exact bI_nar) rfl rfl ?_
    exact Rw_i (bI_t h).symm rfl
  · refine V_icmp_lt dX3_isFull_9 (fun _ => ?_) (fun z => absurd ((clt (by repeat (first | with_reducible rfl | with_reducible exact nlit | with_reducible apply nadd | with_reducible apply nmul | with_reducible apply nsub | with_reducible assumption | omega)) (by repeat (first | with_reducible rfl | with_reducible exact nlit | with_reducible apply nadd | with_reducible apply nmul | with_reducible apply nsub | with_reducible assumption | omega)) (by omega) (by omega)).mpr (by omega)) z)
    refine V_iconst (v := 0) dX3_isFull_16 (by decide) ?_
    refine V_zret dX3_isFull_17 rfl (by first | rfl | exact bI_nar) rfl rfl ?_
    exact Rw_i (bI_f h).symm rfl
theorem tX3_clear (hr : ShK G a q W N) : Ct G l yX3_clear cX3_clear 1 none 0 0 0 sz [.ref (a + q)] (B G a C) (Rwu G a (mset C q (upd (C q) 0 0))) := by
  refine Ct.of (own := RX3) (mn := "clear") (L0 := [some (.ref (a + q))]) (by decide +kernel) rfl rfl rfl (Nat.le_of_ble_eq_true rfl) rfl ?_
  refine V_aload_n dX3_clear_0 rfl ?_
  refine V_iconst (v := 0) dX3_clear_1 (by decide) ?_
  refine V_bputi (i0 := 0) dX3_clear_2 fX3_35 (by have := hr.b; omega) (hr.o _) rfl rfl (Nat.le_of_ble_eq_true rfl) (hr.o _) ?_
  refine V_vret dX3_clear_5 rfl rfl rfl ?_
  exact Rwu_i rfl
theorem tX3_emptyNext {cnt : Nat} (hr : ShK G a q W N) (h0 : C q 0 = nI cnt) (hcnt : cnt ≤ N) : Ct G l yX3_emptyNext cX3_emptyNext 1 none 1 0 0 sz [.ref (a + q)] (B G a C) (Rwu G a (if cnt < N then mset C (q + 4) (upd (C (q + 4)) cnt 0) else C)) := by
  have hN := hr.N
  refine Ct.of (own := RX3) (mn := "emptyNext") (L0 := [some (.ref (a + q))]) (by decide +kernel) rfl rfl rfl (Nat.le_of_ble_eq_true rfl) rfl ?_
  refine V_aload_n dX3_emptyNext_0 rfl ?_
  refine V_aload_n dX3_emptyNext_1 rfl ?_
  refine V_bget dX3_emptyNext_2 fX3_35 (by have := hr.b; omega) (hr.o _) (by (try simp only [mset_s, mset_n, pk_us, pk_un, ne_eq, Nat.reduceEqDiff, Nat.reduceAdd, not_false_eq_true, not_true_eq_false]) <;> rfl) ?_
  rw [h0]
  have e : isIx (nI cnt) N ↔ cnt < N := by unfold isIx; rw [nI_toInt (by omega)]; omega
  refine V_callVw dX3_emptyNext_5 kX3_55 ykX3_hasPlace (by have := hr.b; omega) (hr.o _) rfl (tX3_hasPlace hr) rfl (Nat.le_of_ble_eq_true rfl) ⟨by decide, by decide, by decide, by decide⟩ ?_
  by_cases h : cnt < N
  · refine V_if_eq dX3_emptyNext_8 (fun z => absurd z (bI_ne0.mpr (e.mpr h))) (fun _ => ?_)
    refine V_aload_n dX3_emptyNext_11 rfl ?_
    refine V_bget dX3_emptyNext_12 fX3_29 (by have := hr.b; omega) (hr.o _) (by (try simp only [mset_s, mset_n, pk_us, pk_un, ne_eq, Nat.reduceEqDiff, Nat.reduceAdd, not_false_eq_true, not_true_eq_false]) <;> rfl) ?_
    refine V_aload_n dX3_emptyNext_15 rfl ?_
    refine V_bget dX3_emptyNext_16 fX3_35 (by have := hr.b; omega) (hr.o _) (by (try simp only [mset_s, mset_n, pk_us, pk_un, ne_eq, Nat.reduceEqDiff, Nat.reduceAdd, not_false_eq_true, not_true_eq_false]) <;> rfl) ?_
    rw [h0]
    refine V_iconst (v := 0) dX3_emptyNext_19 (by decide) ?_
    refine V_biast dX3_emptyNext_20 (by have := hr.b; omega) hr.k4 (by repeat (first | with_reducible rfl | with_reducible exact nlit | with_reducible apply nadd | with_reducible apply nmul | with_reducible apply nsub | with_reducible assumption | omega)) (by omega) (by first | decide | omega) ?_
    refine V_vret dX3_emptyNext_21 rfl rfl rfl ?_
    exact Rwu_i (by rw [if_pos h])
  · refine V_if_eq dX3_emptyNext_8 (fun _ => ?_) (fun z => absurd (bI_f (fun z => h (e.mp z))) z)
    refine V_vret dX3_emptyNext_21 rfl rfl rfl ?_
    exact Rwu_i (by rw [if_neg h])
theorem tX3_giveTurns {n : Nat} {t : Int32} (hr : ShK G a q W N) (hn : n < N) : Ct G l yX3_giveTurns cX3_giveTurns 3 none 0 0 0 sz [.ref (a + q), .int (nI n), .int t] (B G a C) (Rwu G a (mset C (q + 5) (upd (C (q + 5)) n t))) := by
  have hN := hr.N
  refine Ct.of (own := RX3) (mn := "giveTurns") (L0 := [some (.ref (a + q)), some (.int (nI n)), some (.int t)]) (by decide +kernel) rfl rfl rfl (Nat.le_of_ble_eq_true rfl) rfl ?_
  refine V_iload_n dX3_giveTurns_0 rfl ?_
  refine V_if_lt dX3_giveTurns_1 (fun z => absurd z (fun z => absurd ((clt (by repeat (first | with_reducible rfl | with_reducible exact nlit | with_reducible apply nadd | with_reducible apply nmul | with_reducible apply nsub | with_reducible assumption | omega)) (by repeat (first | with_reducible rfl | with_reducible exact nlit | with_reducible apply nadd | with_reducible apply nmul | with_reducible apply nsub | with_reducible assumption | omega)) (by omega) (by omega)).mp z) (by omega))) (fun _ => ?_)
  refine V_iload_n dX3_giveTurns_4 rfl ?_
  refine V_aload_n dX3_giveTurns_5 rfl ?_
  refine V_bget dX3_giveTurns_6 fX3_32 (by have := hr.b; omega) (hr.o _) (by (try simp only [mset_s, mset_n, pk_us, pk_un, ne_eq, Nat.reduceEqDiff, Nat.reduceAdd, not_false_eq_true, not_true_eq_false]) <;> rfl) ?_
  refine V_balen (v := nI _) dX3_giveTurns_9 (by have := hr.b; omega) (hr.k5 _) rfl ?_
  refine V_icmp_ge dX3_giveTurns_10 (fun z => absurd z (fun z => absurd ((cle (by repeat (first | with_reducible rfl | with_reducible exact nlit | with_reducible apply nadd | with_reducible apply nmul | with_reducible apply nsub | with_reducible assumption | omega)) (by repeat (first | with_reducible rfl | with_reducible exact nlit | with_reducible apply nadd | with_reducible apply nmul | with_reducible apply nsub | with_reducible assumption | omega)) (by omega) (by omega)).mp z) (by omega))) (fun _ => ?_)
  refine V_aload_n dX3_giveTurns_13 rfl ?_
  refine V_bget dX3_giveTurns_14 fX3_32 (by have := hr.b; omega) (hr.o _) (by (try simp only [mset_s, mset_n, pk_us, pk_un, ne_eq, Nat.reduceEqDiff, Nat.reduceAdd, not_false_eq_true, not_true_eq_false]) <;> rfl) ?_
  refine V_iload_n dX3_giveTurns_17 rfl ?_
  refine V_iload_n dX3_giveTurns_18 rfl ?_
  refine V_biast dX3_giveTurns_19 (by have := hr.b; omega) hr.k5 (by repeat (first | with_reducible rfl | with_reducible exact nlit | with_reducible apply nadd | with_reducible apply nmul | with_reducible apply nsub | with_reducible assumption | omega)) (by omega) (by first | decide | omega) ?_
  refine V_vret dX3_giveTurns_20 rfl rfl rfl ?_
  exact Rwu_i rfl
theorem tX3_keepNext {cnt : Nat} {t : Int32} (hr : ShK G a q W N) (h0 : C q 0 = nI cnt) (hcnt : cnt < N) : Ct G l yX3_keepNext cX3_keepNext 3 (some .int) 1 0 0 sz [.ref (a + q), .int t] (B G a C) (Rw G a (.int (nI cnt)) (mset (mset C (q + 5) (upd (C (q + 5)) cnt t)) q (upd (C q) 0 (nI (cnt + 1))))) := by
  have hN := hr.N
  have hq : q ≠ q + 5 := by omega
  have h0' : ∀ {f : Nat → Int32}, mset C (q + 5) f q = C q := mset_n hq
  refine Ct.of (own := RX3) (mn := "keepNext") (L0 := [some (.ref (a + q)), some (.int t), none]) (by decide +kernel) rfl rfl rfl (Nat.le_of_ble_eq_true rfl) rfl ?_
  refine V_aload_n dX3_keepNext_0 rfl ?_
  refine V_bget dX3_keepNext_1 fX3_35 (by have := hr.b; omega) (hr.o _) (by (try simp only [mset_s, mset_n, pk_us, pk_un, ne_eq, Nat.reduceEqDiff, Nat.reduceAdd, not_false_eq_true, not_true_eq_false]) <;> rfl) ?_
  rw [h0]
  refine V_istore_n dX3_keepNext_4 (by decide) (by dsimp only [List.set] <;> rfl) rfl ?_
  refine V_aload_n dX3_keepNext_5 rfl ?_
  refine V_iload_n dX3_keepNext_6 rfl ?_
  refine V_iload_n dX3_keepNext_7 rfl ?_
  refine V_callVu dX3_keepNext_8 kX3_59 ykX3_giveTurns (by have := hr.b; omega) (hr.o _) rfl (tX3_giveTurns hr hcnt) rfl (Nat.le_of_ble_eq_true rfl) ⟨by decide, by decide, by decide, by decide⟩ ?_
  refine V_aload_n dX3_keepNext_11 rfl ?_
  refine V_callVw dX3_keepNext_12 kX3_63 ykX3_isFull (by have := hr.b; omega) (hr.o _) rfl (tX3_isFull (cnt := cnt) hr (by rw [h0']; exact h0) (by omega)) rfl (Nat.le_of_ble_eq_true rfl) ⟨by decide, by decide, by decide, by decide⟩ ?_
  refine V_if_ne dX3_keepNext_15 (fun z => absurd z (fun z => z (bI_f (by omega)))) (fun _ => ?_)
  refine V_aload_n dX3_keepNext_18 rfl ?_
  refine V_dup dX3_keepNext_19 rfl ?_
  refine V_bget dX3_keepNext_20 fX3_35 (by have := hr.b; omega) (hr.o _) (by (try simp only [mset_s, mset_n, pk_us, pk_un, ne_eq, Nat.reduceEqDiff, Nat.reduceAdd, not_false_eq_true, not_true_eq_false]) <;> rfl) ?_
  rw [h0', h0]
  refine V_iconst (v := 1) dX3_keepNext_23 (by decide) ?_
  refine V_iadd dX3_keepNext_24 ?_
  refine V_bputi (i0 := 0) dX3_keepNext_25 fX3_35 (by have := hr.b; omega) (hr.o _) rfl rfl (Nat.le_of_ble_eq_true rfl) (hr.o _) ?_
  refine V_iload_n dX3_keepNext_28 rfl ?_
  refine V_iret dX3_keepNext_29 rfl rfl rfl ?_
  rw [h0']
  exact Rw_i rfl (by rw [nadd rfl (nlit (n := 1))])
theorem tX3_hasStep {n s : Nat} {x0 : Int32} (hr : ShK G a q W N) (hn : n < N) (hs : C (q + 4) n = nI s) (hs2 : s < 2147483648) : Ct G l yX3_hasStep cX3_hasStep 3 (some .boolean) 1 0 0 sz [.ref (a + q), .int (nI n), .int x0] (B G a C) (Rw G a (.int (bI (isIx x0 s))) C) := by
  have e := isIx_nl (x := x0) (n := s) hs2
  refine Ct.of (own := RX3) (mn := "hasStep") (L0 := [some (.ref (a + q)), some (.int (nI n)), some (.int x0)]) (by decide +kernel) rfl rfl rfl (Nat.le_of_ble_eq_true rfl) rfl ?_
  refine V_iload_n dX3_hasStep_0 rfl ?_
  refine V_if_lt dX3_hasStep_1 (fun c1 => ?_) (fun c1 => ?_)
  · refine V_iconst (v := 0) dX3_hasStep_17 (by decide) ?_
    refine V_zret dX3_hasStep_18 rfl (by first | rfl | exact bI_nar) rfl rfl ?_
    exact Rw_i (bI_f (fun z => (e.mp z).1 c1)).symm rfl
  · refine V_iload_n dX3_hasStep_4 rfl ?_
    refine V_aload_n dX3_hasStep_5 rfl ?_
    refine V_iload_n dX3_hasStep_6 rfl ?_
    refine V_callVw dX3_hasStep_7 kX3_38 ykX3_sizeOf (by have := hr.b; omega) (hr.o _) rfl (tX3_sizeOf hr hn) rfl (Nat.le_of_ble_eq_true rfl) ⟨by decide, by decide, by decide, by decide⟩ ?_
    rw [hs]
    refine V_icmp_ge dX3_hasStep_10 (fun c10 => ?_) (fun c10 => ?_)
    · refine V_iconst (v := 0) dX3_hasStep_17 (by decide) ?_
      refine V_zret dX3_hasStep_18 rfl (by first | rfl | exact bI_nar) rfl rfl ?_
      exact Rw_i (bI_f (fun z => (e.mp z).2 c10)).symm rfl
    · refine V_iconst (v := 1) dX3_hasStep_13 (by decide) ?_
      refine V_goto dX3_hasStep_14 ?_
      refine V_zret dX3_hasStep_18 rfl (by first | rfl | exact bI_nar) rfl rfl ?_
      exact Rw_i (bI_t (e.mpr ⟨c1, c10⟩)).symm rfl
def apS (C : CT) (q W n s : Nat) (v m t : Int32) : CT := mset (mset (mset (mset C (q + 1) (upd (C (q + 1)) (n * W + s) v)) (q + 2) (upd (C (q + 2)) (n * W + s) m)) (q + 3) (upd (C (q + 3)) (n * W + s) t)) (q + 4) (upd (C (q + 4)) n (nI (s + 1)))
set_option maxHeartbeats 4000000 in
theorem tX3_append {n s : Nat} {v m t : Int32} (hr : ShK G a q W N) (hn : n < N) (hs : C (q + 4) n = nI s) (hsW : s ≤ W) : Ct G l yX3_append cX3_append 7 none 1 0 0 sz [.ref (a + q), .int (nI n), .int v, .int m, .int t] (B G a C) (Rwu G a (if s < W then apS C q W n s v m t else C)) := by
  have hN := hr.N
  have hW := hr.W
  have h4 := hr.2.1
  have e : isIx (nI n) N := by unfold isIx; rw [nI_toInt (by omega)]; omega
  refine Ct.of (own := RX3) (mn := "append") (L0 := [some (.ref (a + q)), some (.int (nI n)), some (.int v), some (.int m), some (.int t), none, none]) (by decide +kernel) rfl rfl rfl (Nat.le_of_ble_eq_true rfl) rfl ?_
  refine V_aload_n dX3_append_0 rfl ?_
  refine V_iload_n dX3_append_1 rfl ?_
  refine V_callVw dX3_append_2 kX3_38 ykX3_sizeOf (by have := hr.b; omega) (hr.o _) rfl (tX3_sizeOf hr hn) rfl (Nat.le_of_ble_eq_true rfl) ⟨by decide, by decide, by decide, by decide⟩ ?_
  rw [hs]
  refine V_istore dX3_append_5 (by decide) (by dsimp only [List.set] <;> rfl) rfl ?_
  refine V_iload_n dX3_append_7 rfl ?_
  refine V_aload_n dX3_append_8 rfl ?_
  refine V_bget dX3_append_9 fX3_13 (by have := hr.b; omega) (hr.o _) (by (try simp only [mset_s, mset_n, pk_us, pk_un, ne_eq, Nat.reduceEqDiff, Nat.reduceAdd, not_false_eq_true, not_true_eq_false]) <;> rfl) ?_
  refine V_imul dX3_append_12 ?_
  refine V_iload dX3_append_13 rfl ?_
  refine V_iadd dX3_append_15 ?_
  refine V_istore dX3_append_16 (by decide) (by dsimp only [List.set] <;> rfl) rfl ?_
  refine V_aload_n dX3_append_18 rfl ?_
  refine V_iload_n dX3_append_19 rfl ?_
  refine V_callVw dX3_append_20 kX3_55 ykX3_hasPlace (by have := hr.b; omega) (hr.o _) rfl (tX3_hasPlace hr) rfl (Nat.le_of_ble_eq_true rfl) ⟨by decide, by decide, by decide, by decide⟩ ?_
  refine V_if_eq dX3_append_23 (fun z => absurd z (bI_ne0.mpr e)) (fun _ => ?_)
  refine V_iload dX3_append_26 rfl ?_
  refine V_aload_n dX3_append_28 rfl ?_
  refine V_bget dX3_append_29 fX3_13 (by have := hr.b; omega) (hr.o _) (by (try simp only [mset_s, mset_n, pk_us, pk_un, ne_eq, Nat.reduceEqDiff, Nat.reduceAdd, not_false_eq_true, not_true_eq_false]) <;> rfl) ?_
  by_cases h : s < W
  · have hi := sh_ix hn h
    refine V_icmp_ge dX3_append_32 (fun z => absurd z (fun z => absurd ((cle (by repeat (first | with_reducible rfl | with_reducible exact nlit | with_reducible apply nadd | with_reducible apply nmul | with_reducible apply nsub | with_reducible assumption | omega)) (by repeat (first | with_reducible rfl | with_reducible exact nlit | with_reducible apply nadd | with_reducible apply nmul | with_reducible apply nsub | with_reducible assumption | omega)) (by omega) (by omega)).mp z) (by omega))) (fun _ => ?_)
    refine V_iload dX3_append_35 rfl ?_
    refine V_if_lt dX3_append_37 (fun z => absurd z (fun z => absurd ((clt (by repeat (first | with_reducible rfl | with_reducible exact nlit | with_reducible apply nadd | with_reducible apply nmul | with_reducible apply nsub | with_reducible assumption | omega)) (by repeat (first | with_reducible rfl | with_reducible exact nlit | with_reducible apply nadd | with_reducible apply nmul | with_reducible apply nsub | with_reducible assumption | omega)) (by omega) (by omega)).mp z) (by omega))) (fun _ => ?_)
    refine V_iload dX3_append_40 rfl ?_
    refine V_aload_n dX3_append_42 rfl ?_
    refine V_bget dX3_append_43 fX3_19 (by have := hr.b; omega) (hr.o _) (by (try simp only [mset_s, mset_n, pk_us, pk_un, ne_eq, Nat.reduceEqDiff, Nat.reduceAdd, not_false_eq_true, not_true_eq_false]) <;> rfl) ?_
    refine V_balen (v := nI _) dX3_append_46 (by have := hr.b; omega) (hr.k1 _) rfl ?_
    refine V_icmp_ge dX3_append_47 (fun z => absurd z (fun z => absurd ((cle (by repeat (first | with_reducible rfl | with_reducible exact nlit | with_reducible apply nadd | with_reducible apply nmul | with_reducible apply nsub | with_reducible assumption | omega)) (by repeat (first | with_reducible rfl | with_reducible exact nlit | with_reducible apply nadd | with_reducible apply nmul | with_reducible apply nsub | with_reducible assumption | omega)) (by omega) (by omega)).mp z) (by omega))) (fun _ => ?_)
    refine V_aload_n dX3_append_50 rfl ?_
    refine V_bget dX3_append_51 fX3_19 (by have := hr.b; omega) (hr.o _) (by (try simp only [mset_s, mset_n, pk_us, pk_un, ne_eq, Nat.reduceEqDiff, Nat.reduceAdd, not_false_eq_true, not_true_eq_false]) <;> rfl) ?_
    refine V_iload dX3_append_54 rfl ?_
    refine V_iload_n dX3_append_56 rfl ?_
    refine V_biast dX3_append_57 (by have := hr.b; omega) hr.k1 (by repeat (first | with_reducible rfl | with_reducible exact nlit | with_reducible apply nadd | with_reducible apply nmul | with_reducible apply nsub | with_reducible assumption | omega)) (by omega) (by first | decide | omega) ?_
    refine V_aload_n dX3_append_58 rfl ?_
    refine V_bget dX3_append_59 fX3_23 (by have := hr.b; omega) (hr.o _) (by (try simp only [mset_s, mset_n, pk_us, pk_un, ne_eq, Nat.reduceEqDiff, Nat.reduceAdd, not_false_eq_true, not_true_eq_false]) <;> rfl) ?_
    refine V_iload dX3_append_62 rfl ?_
    refine V_iload_n dX3_append_64 rfl ?_
    refine V_biast dX3_append_65 (by have := hr.b; omega) hr.k2 (by repeat (first | with_reducible rfl | with_reducible exact nlit | with_reducible apply nadd | with_reducible apply nmul | with_reducible apply nsub | with_reducible assumption | omega)) (by omega) (by first | decide | omega) ?_
    refine V_aload_n dX3_append_66 rfl ?_
    refine V_bget dX3_append_67 fX3_26 (by have := hr.b; omega) (hr.o _) (by (try simp only [mset_s, mset_n, pk_us, pk_un, ne_eq, Nat.reduceEqDiff, Nat.reduceAdd, not_false_eq_true, not_true_eq_false]) <;> rfl) ?_
    refine V_iload dX3_append_70 rfl ?_
    refine V_iload dX3_append_72 rfl ?_
    refine V_biast dX3_append_74 (by have := hr.b; omega) hr.k3 (by repeat (first | with_reducible rfl | with_reducible exact nlit | with_reducible apply nadd | with_reducible apply nmul | with_reducible apply nsub | with_reducible assumption | omega)) (by omega) (by first | decide | omega) ?_
    refine V_aload_n dX3_append_75 rfl ?_
    refine V_bget dX3_append_76 fX3_29 (by have := hr.b; omega) (hr.o _) (by (try simp only [mset_s, mset_n, pk_us, pk_un, ne_eq, Nat.reduceEqDiff, Nat.reduceAdd, not_false_eq_true, not_true_eq_false]) <;> rfl) ?_
    refine V_iload_n dX3_append_79 rfl ?_
    refine V_iload dX3_append_80 rfl ?_
    refine V_iconst (v := 1) dX3_append_82 (by decide) ?_
    refine V_iadd dX3_append_83 ?_
    refine V_biast dX3_append_84 (by have := hr.b; omega) hr.k4 (by repeat (first | with_reducible rfl | with_reducible exact nlit | with_reducible apply nadd | with_reducible apply nmul | with_reducible apply nsub | with_reducible assumption | omega)) (by omega) (by first | decide | omega) ?_
    refine V_vret dX3_append_85 rfl rfl rfl ?_
    refine Rwu_i ?_
    rw [if_pos h]
    unfold apS
    rw [mset_n (i := q + 2) (by omega), mset_n (i := q + 3) (by omega), mset_n (i := q + 3) (by omega), mset_n (i := q + 4) (by omega), mset_n (i := q + 4) (by omega), mset_n (i := q + 4) (by omega), nadd rfl (nlit (n := 1))]
  · refine V_icmp_ge dX3_append_32 (fun _ => ?_) (fun z => absurd ((cle (by repeat (first | with_reducible rfl | with_reducible exact nlit | with_reducible apply nadd | with_reducible apply nmul | with_reducible apply nsub | with_reducible assumption | omega)) (by repeat (first | with_reducible rfl | with_reducible exact nlit | with_reducible apply nadd | with_reducible apply nmul | with_reducible apply nsub | with_reducible assumption | omega)) (by omega) (by omega)).mpr (by omega)) z)
    refine V_vret dX3_append_85 rfl rfl rfl ?_
    exact Rwu_i (by rw [if_neg h])
theorem tX3_haveSameVerbs {n n' s s' : Nat} (hr : ShK G a q W N) (hn : n < N) (hn' : n' < N) (hs : C (q + 4) n = nI s) (hs' : C (q + 4) n' = nI s') (hsW : s ≤ W) (hsW' : s' ≤ W) : Ct G l yX3_haveSameVerbs cX3_haveSameVerbs 5 (some .boolean) 2 0 0 sz [.ref (a + q), .int (nI n), .int (nI n')] (B G a C) (Rw G a (.int (bI (s = s' ∧ ∀ k, k < s → C (q + 1) (n * W + k) = C (q + 1) (n' * W + k)))) C) := by
  have hW := hr.W
  refine Ct.of (own := RX3) (mn := "haveSameVerbs") (L0 := [some (.ref (a + q)), some (.int (nI n)), some (.int (nI n')), none, none]) (by decide +kernel) rfl rfl rfl (Nat.le_of_ble_eq_true rfl) rfl ?_
  refine V_aload_n dX3_haveSameVerbs_0 rfl ?_
  refine V_iload_n dX3_haveSameVerbs_1 rfl ?_
  refine V_callVw dX3_haveSameVerbs_2 kX3_38 ykX3_sizeOf (by have := hr.b; omega) (hr.o _) rfl (tX3_sizeOf hr hn) rfl (Nat.le_of_ble_eq_true rfl) ⟨by decide, by decide, by decide, by decide⟩ ?_
  rw [hs]
  refine V_istore_n dX3_haveSameVerbs_5 (by decide) (by dsimp only [List.set] <;> rfl) rfl ?_
  refine V_iload_n dX3_haveSameVerbs_6 rfl ?_
  refine V_aload_n dX3_haveSameVerbs_7 rfl ?_
  refine V_iload_n dX3_haveSameVerbs_8 rfl ?_
  refine V_callVw dX3_haveSameVerbs_9 kX3_38 ykX3_sizeOf (by have := hr.b; omega) (hr.o _) rfl (tX3_sizeOf hr hn') rfl (Nat.le_of_ble_eq_true rfl) ⟨by decide, by decide, by decide, by decide⟩ ?_
  rw [hs']
  by_cases h : s = s'
  · refine V_icmp_eq dX3_haveSameVerbs_12 (fun _ => ?_) (fun z => absurd (by rw [h]) z)
    have key : ∀ (m k : Nat), k + m = s → (∀ j, j < k → C (q + 1) (n * W + j) = C (q + 1) (n' * W + j)) → V G l RX3 "haveSameVerbs" cX3_haveSameVerbs 5 (some .boolean) (rmd 2 0 0) E0 (Qm G (Rw G a (.int (bI (s = s' ∧ ∀ k, k < s → C (q + 1) (n * W + k) = C (q + 1) (n' * W + k)))) C) sz 0 0) sz 0 0 20 [some (.ref (a + q)), some (.int (nI n)), some (.int (nI n')), some (.int (nI s)), some (.int (nI k))] [] (B G a C) := by
      intro m
      induction m with
      | zero =>
        intro k hk hj
        obtain rfl : k = s := by omega
        refine V_iload dX3_haveSameVerbs_20 rfl ?_
        refine V_iload_n dX3_haveSameVerbs_22 rfl ?_
        refine V_icmp_ge dX3_haveSameVerbs_23 (fun _ => ?_) (fun z => absurd ((cle (by repeat (first | with_reducible rfl | with_reducible exact nlit | with_reducible apply nadd | with_reducible apply nmul | with_reducible apply nsub | with_reducible assumption | omega)) (by repeat (first | with_reducible rfl | with_reducible exact nlit | with_reducible apply nadd | with_reducible apply nmul | with_reducible apply nsub | with_reducible assumption | omega)) (by omega) (by omega)).mpr (by omega)) z)
        refine V_iconst (v := 1) dX3_haveSameVerbs_51 (by decide) ?_
        refine V_zret dX3_haveSameVerbs_52 rfl (by first | rfl | exact bI_nar) rfl rfl ?_
        exact Rw_i (bI_t ⟨h, hj⟩).symm rfl
      | succ m ih =>
        intro k hk hj
        refine V_iload dX3_haveSameVerbs_20 rfl ?_
        refine V_iload_n dX3_haveSameVerbs_22 rfl ?_
        refine V_icmp_ge dX3_haveSameVerbs_23 (fun z => absurd z (fun z => absurd ((cle (by repeat (first | with_reducible rfl | with_reducible exact nlit | with_reducible apply nadd | with_reducible apply nmul | with_reducible apply nsub | with_reducible assumption | omega)) (by repeat (first | with_reducible rfl | with_reducible exact nlit | with_reducible apply nadd | with_reducible apply nmul | with_reducible apply nsub | with_reducible assumption | omega)) (by omega) (by omega)).mp z) (by omega))) (fun _ => ?_)
        refine V_aload_n dX3_haveSameVerbs_26 rfl ?_
        refine V_iload_n dX3_haveSameVerbs_27 rfl ?_
        refine V_iload dX3_haveSameVerbs_28 rfl ?_
        refine V_callVw dX3_haveSameVerbs_30 kX3_52 ykX3_verbAt (by have := hr.b; omega) (hr.o _) rfl (tX3_verbAt hr hn (by omega)) rfl (Nat.le_of_ble_eq_true rfl) ⟨by decide, by decide, by decide, by decide⟩ ?_
        refine V_aload_n dX3_haveSameVerbs_33 rfl ?_
        refine V_iload_n dX3_haveSameVerbs_34 rfl ?_
        refine V_iload dX3_haveSameVerbs_35 rfl ?_
        refine V_callVw dX3_haveSameVerbs_37 kX3_52 ykX3_verbAt (by have := hr.b; omega) (hr.o _) rfl (tX3_verbAt hr hn' (by omega)) rfl (Nat.le_of_ble_eq_true rfl) ⟨by decide, by decide, by decide, by decide⟩ ?_
        refine V_icmp_eq dX3_haveSameVerbs_40 (fun c40 => ?_) (fun c40 => ?_)
        · refine V_iinc dX3_haveSameVerbs_45 rfl (ninc _) (by decide) (by dsimp only [List.set] <;> rfl) ?_
          refine V_goto dX3_haveSameVerbs_48 ?_
          refine ih (k + 1) (by omega) (fun j hj2 => ?_)
          by_cases hjk : j = k
          · rw [hjk]; exact c40
          · exact hj j (by omega)
        · refine V_iconst (v := 0) dX3_haveSameVerbs_43 (by decide) ?_
          refine V_zret dX3_haveSameVerbs_44 rfl (by first | rfl | exact bI_nar) rfl rfl ?_
          exact Rw_i (bI_f (fun z => c40 (z.2 k (by omega)))).symm rfl
    refine V_iconst (v := 0) dX3_haveSameVerbs_17 (by decide) ?_
    refine V_istore dX3_haveSameVerbs_18 (by decide) (by dsimp only [List.set] <;> rfl) rfl ?_
    exact key s 0 (by omega) (fun j hj => absurd hj (by omega))
  · refine V_icmp_eq dX3_haveSameVerbs_12 (fun z => absurd z (fun z => absurd ((ceq (by repeat (first | with_reducible rfl | with_reducible exact nlit | with_reducible apply nadd | with_reducible apply nmul | with_reducible apply nsub | with_reducible assumption | omega)) (by repeat (first | with_reducible rfl | with_reducible exact nlit | with_reducible apply nadd | with_reducible apply nmul | with_reducible apply nsub | with_reducible assumption | omega)) (by omega) (by omega)).mp z) (by omega))) (fun _ => ?_)
    refine V_iconst (v := 0) dX3_haveSameVerbs_15 (by decide) ?_
    refine V_zret dX3_haveSameVerbs_16 rfl (by first | rfl | exact bI_nar) rfl rfl ?_
    exact Rw_i (bI_f (fun z => h z.1)).symm rfl
def mvU (f : Nat → Int32) (n w M : Nat) : Nat → Int32 := va_cpy f f (n * w + w) (n * w) (M - (n * w + w))
theorem tX3_moveUp {n w M j : Nat} (hj : j < 105) (hk : ∀ f, kE G a j f = iA G M f) (hM : M ≤ 400) (hn : n < 401) (hw : w < 401) (hw0 : 0 < w) (hnw : n * w + w ≤ M) : Ct G l yX3_moveUp cX3_moveUp 5 none 1 0 0 sz [.ref (a + j), .int (nI n), .int (nI w)] (B G a C) (Rwu G a (mset C j (mvU (C j) n w M))) := by
  refine Ct.of (own := RX3) (mn := "moveUp") (L0 := [some (.ref (a + j)), some (.int (nI n)), some (.int (nI w)), none, none]) (by decide +kernel) rfl rfl rfl (Nat.le_of_ble_eq_true rfl) rfl ?_
  refine V_iload_n dX3_moveUp_0 rfl ?_
  refine V_iload_n dX3_moveUp_1 rfl ?_
  refine V_imul dX3_moveUp_2 ?_
  refine V_istore_n dX3_moveUp_3 (by decide) (by dsimp only [List.set] <;> rfl) rfl ?_
  refine V_iload_n dX3_moveUp_4 rfl ?_
  refine V_iload_n dX3_moveUp_5 rfl ?_
  refine V_iadd dX3_moveUp_6 ?_
  refine V_istore dX3_moveUp_7 (by decide) (by dsimp only [List.set] <;> rfl) rfl ?_
  refine V_iload_n dX3_moveUp_9 rfl ?_
  rw [pk_mul, nI_add]
  refine V_if_lt dX3_moveUp_10 (fun z => absurd z (fun z => absurd ((clt (by repeat (first | with_reducible rfl | with_reducible exact nlit | with_reducible apply nadd | with_reducible apply nmul | with_reducible apply nsub | with_reducible assumption | omega)) (by repeat (first | with_reducible rfl | with_reducible exact nlit | with_reducible apply nadd | with_reducible apply nmul | with_reducible apply nsub | with_reducible assumption | omega)) (by omega) (by omega)).mp z) (by omega))) (fun _ => ?_)
  refine V_iload dX3_moveUp_13 rfl ?_
  refine V_iload_n dX3_moveUp_15 rfl ?_
  refine V_icmp_lt dX3_moveUp_16 (fun z => absurd z (fun z => absurd ((clt (by repeat (first | with_reducible rfl | with_reducible exact nlit | with_reducible apply nadd | with_reducible apply nmul | with_reducible apply nsub | with_reducible assumption | omega)) (by repeat (first | with_reducible rfl | with_reducible exact nlit | with_reducible apply nadd | with_reducible apply nmul | with_reducible apply nsub | with_reducible assumption | omega)) (by omega) (by omega)).mp z) (by omega))) (fun _ => ?_)
  refine V_iload dX3_moveUp_19 rfl ?_
  refine V_aload_n dX3_moveUp_21 rfl ?_
  refine V_balen (v := nI _) dX3_moveUp_22 hj (hk _) rfl ?_
  by_cases h : n * w + w < M
  · refine V_icmp_ge dX3_moveUp_23 (fun z => absurd z (fun z => absurd ((cle (by repeat (first | with_reducible rfl | with_reducible exact nlit | with_reducible apply nadd | with_reducible apply nmul | with_reducible apply nsub | with_reducible assumption | omega)) (by repeat (first | with_reducible rfl | with_reducible exact nlit | with_reducible apply nadd | with_reducible apply nmul | with_reducible apply nsub | with_reducible assumption | omega)) (by omega) (by omega)).mp z) (by omega))) (fun _ => ?_)
    refine V_aload_n dX3_moveUp_26 rfl ?_
    refine V_iload dX3_moveUp_27 rfl ?_
    refine V_aload_n dX3_moveUp_29 rfl ?_
    refine V_iload_n dX3_moveUp_30 rfl ?_
    refine V_aload_n dX3_moveUp_31 rfl ?_
    refine V_balen (v := nI _) dX3_moveUp_32 hj (hk _) rfl ?_
    refine V_iload dX3_moveUp_33 rfl ?_
    refine V_isub dX3_moveUp_35 ?_
    rw [pk_sub (by omega)]
    refine V_acopy dX3_moveUp_36 gac_X3 gacN gacS gacI (B_at hj (hk _)) (B_at hj (hk _)) ?_ ?_ ?_ ?_ ?_ (Nat.le_of_ble_eq_true rfl) (Nat.le_of_ble_eq_true rfl) ?_
    · rw [i_lt, nI_toInt (by omega)]; have : (0 : Int32).toInt = 0 := rfl; omega
    · rw [i_lt, nI_toInt (by omega)]; have : (0 : Int32).toInt = 0 := rfl; omega
    · rw [i_lt, nI_toInt (by omega)]; have : (0 : Int32).toInt = 0 := rfl; omega
    · rw [nI_cl (by omega), nI_cl (by omega)]; omega
    · rw [nI_cl (by omega), nI_cl (by omega)]; omega
    rw [nI_cl (by omega), nI_cl (by omega), nI_cl (by omega), B_set hj (hk _)]
    refine V_vret dX3_moveUp_39 rfl rfl rfl ?_
    exact Rwu_i rfl
  · refine V_icmp_ge dX3_moveUp_23 (fun _ => ?_) (fun z => absurd ((cle (by repeat (first | with_reducible rfl | with_reducible exact nlit | with_reducible apply nadd | with_reducible apply nmul | with_reducible apply nsub | with_reducible assumption | omega)) (by repeat (first | with_reducible rfl | with_reducible exact nlit | with_reducible apply nadd | with_reducible apply nmul | with_reducible apply nsub | with_reducible assumption | omega)) (by omega) (by omega)).mpr (by omega)) z)
    refine V_vret dX3_moveUp_39 rfl rfl rfl ?_
    refine Rwu_i ?_
    unfold mvU
    rw [show M - (n * w + w) = 0 by omega, cpy_0, mset_eta]
def drS (C : CT) (q W N n cnt : Nat) : CT := mset (mset (mset (mset (mset (mset C (q + 1) (mvU (C (q + 1)) n W (W * N))) (q + 2) (mvU (C (q + 2)) n W (W * N))) (q + 3) (mvU (C (q + 3)) n W (W * N))) (q + 4) (mvU (C (q + 4)) n 1 N)) (q + 5) (mvU (C (q + 5)) n 1 N)) q (upd (C q) 0 (nI (cnt - 1)))
set_option maxHeartbeats 4000000 in
theorem tX3_drop {n cnt : Nat} (hr : ShK G a q W N) (h0 : C q 0 = nI cnt) (hn : n < cnt) (hcnt : cnt ≤ N) : Ct G l yX3_drop cX3_drop 2 none 2 0 0 sz [.ref (a + q), .int (nI n)] (B G a C) (Rwu G a (drS C q W N n cnt)) := by
  have hN := hr.N
  have hW := hr.W
  have h4 := hr.2.1
  have hW0 := hr.2.2.2.2.2.2.2.2.2
  have e : isIx (nI n) cnt := by unfold isIx; rw [nI_toInt (by omega)]; omega
  have hi : n * W + W ≤ W * N := by
    have h1 : (n + 1) * W ≤ N * W := Nat.mul_le_mul_right W (by omega)
    rw [Nat.add_mul, Nat.one_mul, Nat.mul_comm N W] at h1
    exact h1
  refine Ct.of (own := RX3) (mn := "drop") (L0 := [some (.ref (a + q)), some (.int (nI n))]) (by decide +kernel) rfl rfl rfl (Nat.le_of_ble_eq_true rfl) rfl ?_
  refine V_aload_n dX3_drop_0 rfl ?_
  refine V_iload_n dX3_drop_1 rfl ?_
  refine V_callVw dX3_drop_2 kX3_67 ykX3_holds (by have := hr.b; omega) (hr.o _) rfl (tX3_holds hr h0 (by omega)) rfl (Nat.le_of_ble_eq_true rfl) ⟨by decide, by decide, by decide, by decide⟩ ?_
  refine V_if_ne dX3_drop_5 (fun _ => ?_) (fun z => absurd z ((bI_ne0.mpr e)))
  refine V_aload_n dX3_drop_9 rfl ?_
  refine V_bget dX3_drop_10 fX3_19 (by have := hr.b; omega) (hr.o _) (by (try simp only [mset_s, mset_n, pk_us, pk_un, ne_eq, Nat.reduceEqDiff, Nat.reduceAdd, not_false_eq_true, not_true_eq_false]) <;> rfl) ?_
  refine V_iload_n dX3_drop_13 rfl ?_
  refine V_aload_n dX3_drop_14 rfl ?_
  refine V_bget dX3_drop_15 fX3_13 (by have := hr.b; omega) (hr.o _) (by (try simp only [mset_s, mset_n, pk_us, pk_un, ne_eq, Nat.reduceEqDiff, Nat.reduceAdd, not_false_eq_true, not_true_eq_false]) <;> rfl) ?_
  refine V_callSu dX3_drop_18 kX3_70 ykX3_moveUp (tX3_moveUp (by have := hr.b; omega) hr.k1 h4 (by omega) (by omega) hW0 hi) rfl (Nat.le_of_ble_eq_true rfl) ⟨by decide, by decide, by decide, by decide⟩ ?_
  refine V_aload_n dX3_drop_21 rfl ?_
  refine V_bget dX3_drop_22 fX3_23 (by have := hr.b; omega) (hr.o _) (by (try simp only [mset_s, mset_n, pk_us, pk_un, ne_eq, Nat.reduceEqDiff, Nat.reduceAdd, not_false_eq_true, not_true_eq_false]) <;> rfl) ?_
  refine V_iload_n dX3_drop_25 rfl ?_
  refine V_aload_n dX3_drop_26 rfl ?_
  refine V_bget dX3_drop_27 fX3_13 (by have := hr.b; omega) (hr.o _) (by (try simp only [mset_s, mset_n, pk_us, pk_un, ne_eq, Nat.reduceEqDiff, Nat.reduceAdd, not_false_eq_true, not_true_eq_false]) <;> rfl) ?_
  refine V_callSu dX3_drop_30 kX3_70 ykX3_moveUp (tX3_moveUp (by have := hr.b; omega) hr.k2 h4 (by omega) (by omega) hW0 hi) rfl (Nat.le_of_ble_eq_true rfl) ⟨by decide, by decide, by decide, by decide⟩ ?_
  refine V_aload_n dX3_drop_33 rfl ?_
  refine V_bget dX3_drop_34 fX3_26 (by have := hr.b; omega) (hr.o _) (by (try simp only [mset_s, mset_n, pk_us, pk_un, ne_eq, Nat.reduceEqDiff, Nat.reduceAdd, not_false_eq_true, not_true_eq_false]) <;> rfl) ?_
  refine V_iload_n dX3_drop_37 rfl ?_
  refine V_aload_n dX3_drop_38 rfl ?_
  refine V_bget dX3_drop_39 fX3_13 (by have := hr.b; omega) (hr.o _) (by (try simp only [mset_s, mset_n, pk_us, pk_un, ne_eq, Nat.reduceEqDiff, Nat.reduceAdd, not_false_eq_true, not_true_eq_false]) <;> rfl) ?_
  refine V_callSu dX3_drop_42 kX3_70 ykX3_moveUp (tX3_moveUp (by have := hr.b; omega) hr.k3 h4 (by omega) (by omega) hW0 hi) rfl (Nat.le_of_ble_eq_true rfl) ⟨by decide, by decide, by decide, by decide⟩ ?_
  refine V_aload_n dX3_drop_45 rfl ?_
  refine V_bget dX3_drop_46 fX3_29 (by have := hr.b; omega) (hr.o _) (by (try simp only [mset_s, mset_n, pk_us, pk_un, ne_eq, Nat.reduceEqDiff, Nat.reduceAdd, not_false_eq_true, not_true_eq_false]) <;> rfl) ?_
  refine V_iload_n dX3_drop_49 rfl ?_
  refine V_iconst (v := 1) dX3_drop_50 (by decide) ?_
  refine V_callSu dX3_drop_51 kX3_70 ykX3_moveUp (tX3_moveUp (w := 1) (by have := hr.b; omega) hr.k4 hN (by omega) (by omega) (by omega) (by omega)) rfl (Nat.le_of_ble_eq_true rfl) ⟨by decide, by decide, by decide, by decide⟩ ?_
  refine V_aload_n dX3_drop_54 rfl ?_
  refine V_bget dX3_drop_55 fX3_32 (by have := hr.b; omega) (hr.o _) (by (try simp only [mset_s, mset_n, pk_us, pk_un, ne_eq, Nat.reduceEqDiff, Nat.reduceAdd, not_false_eq_true, not_true_eq_false]) <;> rfl) ?_
  refine V_iload_n dX3_drop_58 rfl ?_
  refine V_iconst (v := 1) dX3_drop_59 (by decide) ?_
  refine V_callSu dX3_drop_60 kX3_70 ykX3_moveUp (tX3_moveUp (w := 1) (by have := hr.b; omega) hr.k5 hN (by omega) (by omega) (by omega) (by omega)) rfl (Nat.le_of_ble_eq_true rfl) ⟨by decide, by decide, by decide, by decide⟩ ?_
  refine V_aload_n dX3_drop_63 rfl ?_
  refine V_dup dX3_drop_64 rfl ?_
  refine V_bget dX3_drop_65 fX3_35 (by have := hr.b; omega) (hr.o _) (by (try simp only [mset_s, mset_n, pk_us, pk_un, ne_eq, Nat.reduceEqDiff, Nat.reduceAdd, not_false_eq_true, not_true_eq_false]) <;> rfl) ?_
  rw [mset_n (i := q) (by omega), mset_n (i := q) (by omega), mset_n (i := q) (by omega), mset_n (i := q) (by omega), mset_n (i := q) (by omega), h0]
  refine V_iconst (v := 1) dX3_drop_68 (by decide) ?_
  refine V_isub dX3_drop_69 ?_
  refine V_bputi (i0 := 0) dX3_drop_70 fX3_35 (by have := hr.b; omega) (hr.o _) rfl rfl (Nat.le_of_ble_eq_true rfl) (hr.o _) ?_
  refine V_vret dX3_drop_73 rfl rfl rfl ?_
  refine Rwu_i ?_
  unfold drS
  rw [mset_n (i := q) (by omega), mset_n (i := q) (by omega), mset_n (i := q) (by omega), mset_n (i := q) (by omega), mset_n (i := q) (by omega), mset_n (i := q + 2) (by omega), mset_n (i := q + 3) (by omega), mset_n (i := q + 3) (by omega), mset_n (i := q + 4) (by omega), mset_n (i := q + 4) (by omega), mset_n (i := q + 4) (by omega), mset_n (i := q + 5) (by omega), mset_n (i := q + 5) (by omega), mset_n (i := q + 5) (by omega), mset_n (i := q + 5) (by omega), show nI cnt - 1 = nI (cnt - 1) from by rw [show (1 : Int32) = nI 1 from rfl, pk_sub (by omega)]]
/-- q's shelf after a copy from p's -/
def cpS (C : CT) (p q W N : Nat) : CT := mset (mset (mset (mset (mset (mset C (q + 1) (va_cpy (C (p + 1)) (C (q + 1)) 0 0 (W * N))) (q + 2) (va_cpy (C (p + 2)) (C (q + 2)) 0 0 (W * N))) (q + 3) (va_cpy (C (p + 3)) (C (q + 3)) 0 0 (W * N))) (q + 4) (va_cpy (C (p + 4)) (C (q + 4)) 0 0 N)) (q + 5) (va_cpy (C (p + 5)) (C (q + 5)) 0 0 N)) q (upd (C q) 0 (C p 0))
set_option maxHeartbeats 4000000 in
theorem tX3_copyFrom {p : Nat} (hs : ShK G a p W N) (hr : ShK G a q W N) (hpq : p + 5 < q ∨ q + 5 < p) : Ct G l yX3_copyFrom cX3_copyFrom 2 none 2 0 0 sz [.ref (a + q), .ref (a + p)] (B G a C) (Rwu G a (cpS C p q W N)) := by
  have hN := hr.N
  have h4 := hr.2.1
  refine Ct.of (own := RX3) (mn := "copyFrom") (L0 := [some (.ref (a + q)), some (.ref (a + p))]) (by decide +kernel) rfl rfl rfl (Nat.le_of_ble_eq_true rfl) rfl ?_
  refine V_aload_n dX3_copyFrom_0 rfl ?_
  refine V_bget dX3_copyFrom_1 fX3_19 (by have := hs.b; omega) (hs.o _) (by (try simp only [mset_s, mset_n, pk_us, pk_un, ne_eq, Nat.reduceEqDiff, Nat.reduceAdd, not_false_eq_true, not_true_eq_false]) <;> rfl) ?_
  refine V_aload_n dX3_copyFrom_4 rfl ?_
  refine V_bget dX3_copyFrom_5 fX3_19 (by have := hr.b; omega) (hr.o _) (by (try simp only [mset_s, mset_n, pk_us, pk_un, ne_eq, Nat.reduceEqDiff, Nat.reduceAdd, not_false_eq_true, not_true_eq_false]) <;> rfl) ?_
  refine V_callSu dX3_copyFrom_8 kX3_74 ykX6_copyNumbers (tX6_copyNumbers (by have := hs.b; omega) (by have := hr.b; omega) (by omega) hs.k1 hr.k1) rfl (Nat.le_of_ble_eq_true rfl) ⟨by decide, by decide, by decide, by decide⟩ ?_
  refine V_aload_n dX3_copyFrom_11 rfl ?_
  refine V_bget dX3_copyFrom_12 fX3_23 (by have := hs.b; omega) (hs.o _) (by (try simp only [mset_s, mset_n, pk_us, pk_un, ne_eq, Nat.reduceEqDiff, Nat.reduceAdd, not_false_eq_true, not_true_eq_false]) <;> rfl) ?_
  refine V_aload_n dX3_copyFrom_15 rfl ?_
  refine V_bget dX3_copyFrom_16 fX3_23 (by have := hr.b; omega) (hr.o _) (by (try simp only [mset_s, mset_n, pk_us, pk_un, ne_eq, Nat.reduceEqDiff, Nat.reduceAdd, not_false_eq_true, not_true_eq_false]) <;> rfl) ?_
  refine V_callSu dX3_copyFrom_19 kX3_74 ykX6_copyNumbers (tX6_copyNumbers (by have := hs.b; omega) (by have := hr.b; omega) (by omega) hs.k2 hr.k2) rfl (Nat.le_of_ble_eq_true rfl) ⟨by decide, by decide, by decide, by decide⟩ ?_
  refine V_aload_n dX3_copyFrom_22 rfl ?_
  refine V_bget dX3_copyFrom_23 fX3_26 (by have := hs.b; omega) (hs.o _) (by (try simp only [mset_s, mset_n, pk_us, pk_un, ne_eq, Nat.reduceEqDiff, Nat.reduceAdd, not_false_eq_true, not_true_eq_false]) <;> rfl) ?_
  refine V_aload_n dX3_copyFrom_26 rfl ?_
  refine V_bget dX3_copyFrom_27 fX3_26 (by have := hr.b; omega) (hr.o _) (by (try simp only [mset_s, mset_n, pk_us, pk_un, ne_eq, Nat.reduceEqDiff, Nat.reduceAdd, not_false_eq_true, not_true_eq_false]) <;> rfl) ?_
  refine V_callSu dX3_copyFrom_30 kX3_74 ykX6_copyNumbers (tX6_copyNumbers (by have := hs.b; omega) (by have := hr.b; omega) (by omega) hs.k3 hr.k3) rfl (Nat.le_of_ble_eq_true rfl) ⟨by decide, by decide, by decide, by decide⟩ ?_
  refine V_aload_n dX3_copyFrom_33 rfl ?_
  refine V_bget dX3_copyFrom_34 fX3_29 (by have := hs.b; omega) (hs.o _) (by (try simp only [mset_s, mset_n, pk_us, pk_un, ne_eq, Nat.reduceEqDiff, Nat.reduceAdd, not_false_eq_true, not_true_eq_false]) <;> rfl) ?_
  refine V_aload_n dX3_copyFrom_37 rfl ?_
  refine V_bget dX3_copyFrom_38 fX3_29 (by have := hr.b; omega) (hr.o _) (by (try simp only [mset_s, mset_n, pk_us, pk_un, ne_eq, Nat.reduceEqDiff, Nat.reduceAdd, not_false_eq_true, not_true_eq_false]) <;> rfl) ?_
  refine V_callSu dX3_copyFrom_41 kX3_74 ykX6_copyNumbers (tX6_copyNumbers (by have := hs.b; omega) (by have := hr.b; omega) (by omega) hs.k4 hr.k4) rfl (Nat.le_of_ble_eq_true rfl) ⟨by decide, by decide, by decide, by decide⟩ ?_
  refine V_aload_n dX3_copyFrom_44 rfl ?_
  refine V_bget dX3_copyFrom_45 fX3_32 (by have := hs.b; omega) (hs.o _) (by (try simp only [mset_s, mset_n, pk_us, pk_un, ne_eq, Nat.reduceEqDiff, Nat.reduceAdd, not_false_eq_true, not_true_eq_false]) <;> rfl) ?_
  refine V_aload_n dX3_copyFrom_48 rfl ?_
  refine V_bget dX3_copyFrom_49 fX3_32 (by have := hr.b; omega) (hr.o _) (by (try simp only [mset_s, mset_n, pk_us, pk_un, ne_eq, Nat.reduceEqDiff, Nat.reduceAdd, not_false_eq_true, not_true_eq_false]) <;> rfl) ?_
  refine V_callSu dX3_copyFrom_52 kX3_74 ykX6_copyNumbers (tX6_copyNumbers (by have := hs.b; omega) (by have := hr.b; omega) (by omega) hs.k5 hr.k5) rfl (Nat.le_of_ble_eq_true rfl) ⟨by decide, by decide, by decide, by decide⟩ ?_
  refine V_aload_n dX3_copyFrom_55 rfl ?_
  refine V_aload_n dX3_copyFrom_56 rfl ?_
  refine V_bget dX3_copyFrom_57 fX3_35 (by have := hs.b; omega) (hs.o _) (by (try simp only [mset_s, mset_n, pk_us, pk_un, ne_eq, Nat.reduceEqDiff, Nat.reduceAdd, not_false_eq_true, not_true_eq_false]) <;> rfl) ?_
  refine V_bputi (i0 := 0) dX3_copyFrom_60 fX3_35 (by have := hr.b; omega) (hr.o _) rfl rfl (Nat.le_of_ble_eq_true rfl) (hr.o _) ?_
  refine V_vret dX3_copyFrom_63 rfl rfl rfl ?_
  refine Rwu_i ?_
  unfold cpS
  have r1 : ∀ (C : CT) (i : Nat) (f : Nat → Int32), i ≠ q → mset C i f q = C q := fun C i f h => mset_n (Ne.symm h)
  simp (discharger := omega) only [mset_n, ne_eq]
end CLS
