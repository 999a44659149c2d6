/-! Row: valueAt, put, valueUnderHand, obey, copyFrom, sum; copyNumbers, inRange of TryLoops. -/
theorem mset_id {C : CT} {j : Nat} {f : Nat → Int32} (h : f = C j) : mset C j f = C := by rw [h, mset_eta]
theorem mset_comm {C : CT} {i j : Nat} {f g : Nat → Int32} (h : i ≠ j) : mset (mset C i f) j g = mset (mset C j g) i f := by
  funext k; unfold mset
  by_cases h1 : k = j
  · subst h1; rw [if_pos rfl, if_neg (Ne.symm h), if_pos rfl]
  · rw [if_neg h1]
    by_cases h2 : k = i
    · rw [if_pos h2, if_pos h2]
    · rw [if_neg h2, if_neg h2, if_neg h1]
theorem B_ext {G : GT} {a : Nat} {C C' : CT} (h : ∀ j, j < 105 → kE G a j (C j) = kE G a j (C' j)) : B G a C = B G a C' := by
  funext q
  unfold B
  by_cases h1 : a ≤ q ∧ q < a + 105
  · rw [if_pos h1, if_pos h1, h _ (by omega)]
  · rw [if_neg h1, if_neg h1]
theorem cpy_full {f g : Nat → Int32} {N j : Nat} (h : j < N) : va_cpy f g 0 0 N j = f j := by
  unfold va_cpy
  rw [if_pos (by omega)]
  congr 1
  omega
def roS (C : CT) (q : Nat) (s : (Nat → Int32) × Nat) : CT := mset (mset C (q + 1) s.1) q (upd (C q) 0 (nI s.2))
theorem roS_c {C : CT} {q hd : Nat} {c : Nat → Int32} (h0 : C q 0 = nI hd) : roS C q (c, hd) = mset C (q + 1) c := by
  unfold roS
  exact mset_id (by rw [mset_n (by omega)]; show upd (C q) 0 (nI hd) = C q; rw [← h0, u_eta])
theorem roS_h {C : CT} {q m : Nat} : roS C q (C (q + 1), m) = mset C q (upd (C q) 0 (nI m)) := by
  unfold roS
  show mset (mset C (q + 1) (C (q + 1))) q _ = _
  rw [mset_eta]
section CLS
variable {G : GT} {l : Launch} {sz a : Nat} {C : CT}
theorem tX2_valueAt {q m : Nat} (hr : RoK G a q) (hm : m < 30) : Ct G l yX2_valueAt cX2_valueAt 2 (some .int) 0 0 0 sz [.ref (a + q), .int (nI m)] (B G a C) (Rw G a (.int (C (q + 1) m)) C) := by
  refine Ct.of (own := RX2) (mn := "valueAt") (L0 := [some (.ref (a + q)), some (.int (nI m))]) (by decide +kernel) rfl rfl rfl (Nat.le_of_ble_eq_true rfl) rfl ?_
  refine V_iload_n dX2_valueAt_0 rfl ?_
  refine V_if_lt dX2_valueAt_1 (fun z => absurd z (fun z => absurd ((clt (by repeat (first | with_reducible rfl | with_reducible exact nlit | with_reducible apply nadd | with_reducible apply nmul | with_reducible apply nsub | with_reducible assumption | omega)) (by repeat (first | with_reducible rfl | with_reducible exact nlit | with_reducible apply nadd | with_reducible apply nmul | with_reducible apply nsub | with_reducible assumption | omega)) (by omega) (by omega)).mp z) (by omega))) (fun _ => ?_)
  refine V_iload_n dX2_valueAt_4 rfl ?_
  refine V_aload_n dX2_valueAt_5 rfl ?_
  refine V_bget dX2_valueAt_6 fX2_9 (by have := hr.1; omega) (hr.2.1 _) (by (try simp only [mset_s, mset_n, pk_us, pk_un, ne_eq, Nat.reduceEqDiff, Nat.reduceAdd, not_false_eq_true, not_true_eq_false]) <;> rfl) ?_
  refine V_balen (v := nI _) dX2_valueAt_9 (by have := hr.1; omega) (hr.2.2 _) rfl ?_
  refine V_icmp_ge dX2_valueAt_10 (fun z => absurd z (fun z => absurd ((cle (by repeat (first | with_reducible rfl | with_reducible exact nlit | with_reducible apply nadd | with_reducible apply nmul | with_reducible apply nsub | with_reducible assumption | omega)) (by repeat (first | with_reducible rfl | with_reducible exact nlit | with_reducible apply nadd | with_reducible apply nmul | with_reducible apply nsub | with_reducible assumption | omega)) (by omega) (by omega)).mp z) (by omega))) (fun _ => ?_)
  refine V_aload_n dX2_valueAt_13 rfl ?_
  refine V_bget dX2_valueAt_14 fX2_9 (by have := hr.1; omega) (hr.2.1 _) (by (try simp only [mset_s, mset_n, pk_us, pk_un, ne_eq, Nat.reduceEqDiff, Nat.reduceAdd, not_false_eq_true, not_true_eq_false]) <;> rfl) ?_
  refine V_iload_n dX2_valueAt_17 rfl ?_
  refine V_biald dX2_valueAt_18 (by have := hr.1; omega) (hr.2.2 _) (by repeat (first | with_reducible rfl | with_reducible exact nlit | with_reducible apply nadd | with_reducible apply nmul | with_reducible apply nsub | with_reducible assumption | omega)) (by omega) (by first | decide | omega) (by (try simp only [mset_s, mset_n, pk_us, pk_un, ne_eq, Nat.reduceEqDiff, Nat.reduceAdd, not_false_eq_true, not_true_eq_false]) <;> rfl) ?_
  refine V_goto dX2_valueAt_19 ?_
  refine V_iret dX2_valueAt_23 rfl rfl rfl ?_
  exact Rw_i rfl rfl
theorem tX2_put {q m : Nat} {x0 : Int32} (hr : RoK G a q) (hm : m < 30) : Ct G l yX2_put cX2_put 3 none 0 0 0 sz [.ref (a + q), .int (nI m), .int x0] (B G a C) (Rwu G a (mset C (q + 1) (upd (C (q + 1)) m x0))) := by
  refine Ct.of (own := RX2) (mn := "put") (L0 := [some (.ref (a + q)), some (.int (nI m)), some (.int x0)]) (by decide +kernel) rfl rfl rfl (Nat.le_of_ble_eq_true rfl) rfl ?_
  refine V_iload_n dX2_put_0 rfl ?_
  refine V_if_lt dX2_put_1 (fun z => absurd z (fun z => absurd ((clt (by repeat (first | with_reducible rfl | with_reducible exact nlit | with_reducible apply nadd | with_reducible apply nmul | with_reducible apply nsub | with_reducible assumption | omega)) (by repeat (first | with_reducible rfl | with_reducible exact nlit | with_reducible apply nadd | with_reducible apply nmul | with_reducible apply nsub | with_reducible assumption | omega)) (by omega) (by omega)).mp z) (by omega))) (fun _ => ?_)
  refine V_iload_n dX2_put_4 rfl ?_
  refine V_aload_n dX2_put_5 rfl ?_
  refine V_bget dX2_put_6 fX2_9 (by have := hr.1; omega) (hr.2.1 _) (by (try simp only [mset_s, mset_n, pk_us, pk_un, ne_eq, Nat.reduceEqDiff, Nat.reduceAdd, not_false_eq_true, not_true_eq_false]) <;> rfl) ?_
  refine V_balen (v := nI _) dX2_put_9 (by have := hr.1; omega) (hr.2.2 _) rfl ?_
  refine V_icmp_ge dX2_put_10 (fun z => absurd z (fun z => absurd ((cle (by repeat (first | with_reducible rfl | with_reducible exact nlit | with_reducible apply nadd | with_reducible apply nmul | with_reducible apply nsub | with_reducible assumption | omega)) (by repeat (first | with_reducible rfl | with_reducible exact nlit | with_reducible apply nadd | with_reducible apply nmul | with_reducible apply nsub | with_reducible assumption | omega)) (by omega) (by omega)).mp z) (by omega))) (fun _ => ?_)
  refine V_aload_n dX2_put_13 rfl ?_
  refine V_bget dX2_put_14 fX2_9 (by have := hr.1; omega) (hr.2.1 _) (by (try simp only [mset_s, mset_n, pk_us, pk_un, ne_eq, Nat.reduceEqDiff, Nat.reduceAdd, not_false_eq_true, not_true_eq_false]) <;> rfl) ?_
  refine V_iload_n dX2_put_17 rfl ?_
  refine V_iload_n dX2_put_18 rfl ?_
  refine V_biast dX2_put_19 (by have := hr.1; omega) hr.2.2 (by repeat (first | with_reducible rfl | with_reducible exact nlit | with_reducible apply nadd | with_reducible apply nmul | with_reducible apply nsub | with_reducible assumption | omega)) (by omega) (by first | decide | omega) ?_
  refine V_vret dX2_put_20 rfl rfl rfl ?_
  exact Rwu_i rfl
theorem tX2_valueUnderHand {q hd : Nat} (hr : RoK G a q) (h0 : C q 0 = nI hd) (hhd : hd < 30) : Ct G l yX2_valueUnderHand cX2_valueUnderHand 1 (some .int) 1 0 0 sz [.ref (a + q)] (B G a C) (Rw G a (.int (C (q + 1) hd)) C) := by
  refine Ct.of (own := RX2) (mn := "valueUnderHand") (L0 := [some (.ref (a + q))]) (by decide +kernel) rfl rfl rfl (Nat.le_of_ble_eq_true rfl) rfl ?_
  refine V_aload_n dX2_valueUnderHand_0 rfl ?_
  refine V_aload_n dX2_valueUnderHand_1 rfl ?_
  refine V_bget dX2_valueUnderHand_2 fX2_15 (by have := hr.1; omega) (hr.2.1 _) (by (try simp only [mset_s, mset_n, pk_us, pk_un, ne_eq, Nat.reduceEqDiff, Nat.reduceAdd, not_false_eq_true, not_true_eq_false]) <;> rfl) ?_
  rw [h0]
  refine V_callVw dX2_valueUnderHand_5 kX2_19 ykX2_valueAt (by have := hr.1; omega) (hr.2.1 _) rfl (tX2_valueAt hr hhd) rfl (Nat.le_of_ble_eq_true rfl) ⟨by decide, by decide, by decide, by decide⟩ ?_
  refine V_iret dX2_valueUnderHand_8 rfl rfl rfl ?_
  exact Rw_i rfl rfl
set_option maxHeartbeats 4000000 in
theorem tX2_obey {q hd m : Nat} {v : Int32} (hr : RoK G a q) (h0 : C q 0 = nI hd) (hhd : hd < 30) (hm : v = 3 ∨ v = 4 → m < 30) (hm2 : m < 100) : Ct G l yX2_obey cX2_obey 4 (some .boolean) 2 0 0 sz [.ref (a + q), .int v, .int (nI m)] (B G a C) (Rw G a (.int (bI (pStep (C (q + 1)) hd v m))) (roS C q (rowStep (C (q + 1)) hd v m))) := by
  have hq : q + 1 ≠ q := by omega
  have hq2 : q ≠ q + 1 := by omega
  have h0' : ∀ {f : Nat → Int32}, mset C (q + 1) f q 0 = nI hd := by intro f; rw [mset_n hq2]; exact h0
  refine Ct.of (own := RX2) (mn := "obey") (L0 := [some (.ref (a + q)), some (.int v), some (.int (nI m)), none]) (by decide +kernel) rfl rfl rfl (Nat.le_of_ble_eq_true rfl) rfl ?_
  refine V_aload_n dX2_obey_0 rfl ?_
  refine V_callVw dX2_obey_1 kX2_27 ykX2_valueUnderHand (by have := hr.1; omega) (hr.2.1 _) rfl (tX2_valueUnderHand hr h0 hhd) rfl (Nat.le_of_ble_eq_true rfl) ⟨by decide, by decide, by decide, by decide⟩ ?_
  refine V_istore_n dX2_obey_4 (by decide) (by dsimp only [List.set] <;> rfl) rfl ?_
  refine V_iload_n dX2_obey_5 rfl ?_
  by_cases v0 : v = 0
  · subst v0
    refine V_tIn (tg := 40) dX2_obey_6 (by decide) (by decide) rfl rfl ?_
    refine V_aload_n dX2_obey_40 rfl ?_
    refine V_iload_n dX2_obey_41 rfl ?_
    refine V_bputi (i0 := 0) dX2_obey_42 fX2_15 (by have := hr.1; omega) (hr.2.1 _) rfl rfl (Nat.le_of_ble_eq_true rfl) (hr.2.1 _) ?_
    refine V_iconst (v := 1) dX2_obey_45 (by decide) ?_
    refine V_zret dX2_obey_46 rfl (by first | rfl | exact bI_nar) rfl rfl ?_
    exact Rw_i (bI_t (Or.inl (Or.inl rfl))).symm roS_h.symm
  by_cases v1 : v = 1
  · subst v1
    refine V_tIn (tg := 47) dX2_obey_6 (by decide) (by decide) rfl rfl ?_
    refine V_aload_n dX2_obey_47 rfl ?_
    refine V_aload_n dX2_obey_48 rfl ?_
    refine V_bget dX2_obey_49 fX2_15 (by have := hr.1; omega) (hr.2.1 _) (by (try simp only [mset_s, mset_n, pk_us, pk_un, ne_eq, Nat.reduceEqDiff, Nat.reduceAdd, not_false_eq_true, not_true_eq_false]) <;> rfl) ?_
    rw [h0]
    refine V_iload_n dX2_obey_52 rfl ?_
    refine V_callVu dX2_obey_53 kX2_31 ykX2_put (by have := hr.1; omega) (hr.2.1 _) rfl (tX2_put hr hhd) rfl (Nat.le_of_ble_eq_true rfl) ⟨by decide, by decide, by decide, by decide⟩ ?_
    refine V_iconst (v := 1) dX2_obey_56 (by decide) ?_
    refine V_zret dX2_obey_57 rfl (by first | rfl | exact bI_nar) rfl rfl ?_
    exact Rw_i (bI_t (Or.inl (Or.inr (Or.inl rfl)))).symm (roS_c h0).symm
  by_cases v2 : v = 2
  · subst v2
    refine V_tIn (tg := 58) dX2_obey_6 (by decide) (by decide) rfl rfl ?_
    refine V_aload_n dX2_obey_58 rfl ?_
    refine V_aload_n dX2_obey_59 rfl ?_
    refine V_bget dX2_obey_60 fX2_15 (by have := hr.1; omega) (hr.2.1 _) (by (try simp only [mset_s, mset_n, pk_us, pk_un, ne_eq, Nat.reduceEqDiff, Nat.reduceAdd, not_false_eq_true, not_true_eq_false]) <;> rfl) ?_
    rw [h0]
    refine V_iload_n dX2_obey_63 rfl ?_
    refine V_iload_n dX2_obey_64 rfl ?_
    refine V_iadd dX2_obey_65 ?_
    refine V_bipush (v := 100) dX2_obey_66 (by decide) ?_
    refine V_irem dX2_obey_68 (by decide) ?_
    refine V_callVu dX2_obey_69 kX2_31 ykX2_put (by have := hr.1; omega) (hr.2.1 _) rfl (tX2_put hr hhd) rfl (Nat.le_of_ble_eq_true rfl) ⟨by decide, by decide, by decide, by decide⟩ ?_
    refine V_iconst (v := 1) dX2_obey_72 (by decide) ?_
    refine V_zret dX2_obey_73 rfl (by first | rfl | exact bI_nar) rfl rfl ?_
    exact Rw_i (bI_t (Or.inl (Or.inr (Or.inr (Or.inl rfl))))).symm (roS_c h0).symm
  by_cases v3 : v = 3
  · subst v3
    have hm3 := hm (Or.inl rfl)
    refine V_tIn (tg := 74) dX2_obey_6 (by decide) (by decide) rfl rfl ?_
    refine V_aload_n dX2_obey_74 rfl ?_
    refine V_aload_n dX2_obey_75 rfl ?_
    refine V_bget dX2_obey_76 fX2_15 (by have := hr.1; omega) (hr.2.1 _) (by (try simp only [mset_s, mset_n, pk_us, pk_un, ne_eq, Nat.reduceEqDiff, Nat.reduceAdd, not_false_eq_true, not_true_eq_false]) <;> rfl) ?_
    rw [h0]
    refine V_aload_n dX2_obey_79 rfl ?_
    refine V_iload_n dX2_obey_80 rfl ?_
    refine V_callVw dX2_obey_81 kX2_19 ykX2_valueAt (by have := hr.1; omega) (hr.2.1 _) rfl (tX2_valueAt hr hm3) rfl (Nat.le_of_ble_eq_true rfl) ⟨by decide, by decide, by decide, by decide⟩ ?_
    refine V_callVu dX2_obey_84 kX2_31 ykX2_put (by have := hr.1; omega) (hr.2.1 _) rfl (tX2_put hr hhd) rfl (Nat.le_of_ble_eq_true rfl) ⟨by decide, by decide, by decide, by decide⟩ ?_
    refine V_iconst (v := 1) dX2_obey_87 (by decide) ?_
    refine V_zret dX2_obey_88 rfl (by first | rfl | exact bI_nar) rfl rfl ?_
    exact Rw_i (bI_t (Or.inl (Or.inr (Or.inr (Or.inr (Or.inl rfl)))))).symm (roS_c h0).symm
  by_cases v4 : v = 4
  · subst v4
    have hm3 := hm (Or.inr rfl)
    refine V_tIn (tg := 89) dX2_obey_6 (by decide) (by decide) rfl rfl ?_
    refine V_aload_n dX2_obey_89 rfl ?_
    refine V_aload_n dX2_obey_90 rfl ?_
    refine V_bget dX2_obey_91 fX2_15 (by have := hr.1; omega) (hr.2.1 _) (by (try simp only [mset_s, mset_n, pk_us, pk_un, ne_eq, Nat.reduceEqDiff, Nat.reduceAdd, not_false_eq_true, not_true_eq_false]) <;> rfl) ?_
    rw [h0]
    refine V_aload_n dX2_obey_94 rfl ?_
    refine V_iload_n dX2_obey_95 rfl ?_
    refine V_callVw dX2_obey_96 kX2_19 ykX2_valueAt (by have := hr.1; omega) (hr.2.1 _) rfl (tX2_valueAt hr hm3) rfl (Nat.le_of_ble_eq_true rfl) ⟨by decide, by decide, by decide, by decide⟩ ?_
    refine V_callVu dX2_obey_99 kX2_31 ykX2_put (by have := hr.1; omega) (hr.2.1 _) rfl (tX2_put hr hhd) rfl (Nat.le_of_ble_eq_true rfl) ⟨by decide, by decide, by decide, by decide⟩ ?_
    refine V_aload_n dX2_obey_102 rfl ?_
    refine V_iload_n dX2_obey_103 rfl ?_
    refine V_iload_n dX2_obey_104 rfl ?_
    refine V_callVu dX2_obey_105 kX2_31 ykX2_put (by have := hr.1; omega) (hr.2.1 _) rfl (tX2_put hr hm3) rfl (Nat.le_of_ble_eq_true rfl) ⟨by decide, by decide, by decide, by decide⟩ ?_
    refine V_iconst (v := 1) dX2_obey_108 (by decide) ?_
    refine V_zret dX2_obey_109 rfl (by first | rfl | exact bI_nar) rfl rfl ?_
    refine Rw_i (bI_t (Or.inl (Or.inr (Or.inr (Or.inr (Or.inr rfl)))))).symm ?_
    rw [mset_s, mset_ss]
    exact (roS_c h0).symm
  · have hv : ¬ isV v := by rintro (z | z | z | z | z) <;> contradiction
    refine V_tOut (tg := 110) dX2_obey_6 (nv_out hv) rfl ?_
    have e : roS C q (rowStep (C (q + 1)) hd v m) = C := by
      unfold rowStep
      rw [if_neg v0, if_neg v1, if_neg v2, if_neg v3, if_neg v4, roS_c h0, mset_eta]
    refine V_iload_n dX2_obey_110 rfl ?_
    refine V_iload_n dX2_obey_111 rfl ?_
    refine V_icmp_gt dX2_obey_112 (fun c112 => ?_) (fun c112 => ?_)
    · refine V_iconst (v := 0) dX2_obey_119 (by decide) ?_
      refine V_zret dX2_obey_120 rfl (by first | rfl | exact bI_nar) rfl rfl ?_
      exact Rw_i (bI_f (fun z => z.elim hv (fun w => by rw [i_lt] at c112; rw [i_le] at w; omega))).symm e.symm
    · refine V_iconst (v := 1) dX2_obey_115 (by decide) ?_
      refine V_goto dX2_obey_116 ?_
      refine V_zret dX2_obey_120 rfl (by first | rfl | exact bI_nar) rfl rfl ?_
      exact Rw_i (bI_t (Or.inr (by rw [i_lt] at c112; rw [i_le]; omega))).symm e.symm
theorem tX6_copyNumbers {p q N : Nat} (hp : p < 105) (hq : q < 105) (hN : N < 2147483648) (kp : ∀ f, kE G a p f = iA G N f) (kq : ∀ f, kE G a q f = iA G N f) : Ct G l yX6_copyNumbers cX6_copyNumbers 2 none 1 0 0 sz [.ref (a + p), .ref (a + q)] (B G a C) (Rwu G a (mset C q (va_cpy (C p) (C q) 0 0 N))) := by
  have hl : ¬ nI N < nI N := fun z => absurd ((nlt hN hN).mp z) (by omega)
  have h0 : ¬ nI N < 0 := fun z => by rw [i_lt, nI_toInt hN] at z; have : (0 : Int32).toInt = 0 := rfl; omega
  refine Ct.of (own := RX6) (mn := "copyNumbers") (L0 := [some (.ref (a + p)), some (.ref (a + q))]) (by decide +kernel) rfl rfl rfl (Nat.le_of_ble_eq_true rfl) rfl ?_
  refine V_aload_n dX6_copyNumbers_0 rfl ?_
  refine V_iconst (v := 0) dX6_copyNumbers_1 (by decide) ?_
  refine V_aload_n dX6_copyNumbers_2 rfl ?_
  refine V_iconst (v := 0) dX6_copyNumbers_3 (by decide) ?_
  refine V_aload_n dX6_copyNumbers_4 rfl ?_
  refine V_balen (v := nI _) dX6_copyNumbers_5 hp (kp _) rfl ?_
  refine V_aload_n dX6_copyNumbers_6 rfl ?_
  refine V_balen (v := nI _) dX6_copyNumbers_7 hq (kq _) rfl ?_
  refine V_min dX6_copyNumbers_8 gmax_X6_255 gminS gmaxI gminC (Nat.le_of_ble_eq_true rfl) (Nat.le_of_ble_eq_true rfl) (Nat.le_of_ble_eq_true rfl) (Nat.le_of_ble_eq_true rfl) ?_
  rw [if_neg hl]
  refine V_acopy dX6_copyNumbers_11 gac_X6 gacN gacS gacI (B_at hp (kp _)) (B_at hq (kq _)) (by decide) (by decide) h0 (by rw [nI_cl hN]; exact Nat.le_of_eq (Nat.zero_add N)) (by rw [nI_cl hN]; exact Nat.le_of_eq (Nat.zero_add N)) (Nat.le_of_ble_eq_true rfl) (Nat.le_of_ble_eq_true rfl) ?_
  rw [B_set hq (kq _), nI_cl hN]
  refine V_vret dX6_copyNumbers_14 rfl rfl rfl ?_
  exact Rwu_i rfl
theorem tX2_copyFrom {p q : Nat} (hs : RoK G a p) (hr : RoK G a q) (hpq : p + 1 < q ∨ q + 1 < p) : Ct G l yX2_copyFrom cX2_copyFrom 2 none 2 0 0 sz [.ref (a + q), .ref (a + p)] (B G a C) (Rwu G a (mset (mset C (q + 1) (va_cpy (C (p + 1)) (C (q + 1)) 0 0 30)) q (upd (C q) 0 (C p 0)))) := by
  refine Ct.of (own := RX2) (mn := "copyFrom") (L0 := [some (.ref (a + q)), some (.ref (a + p))]) (by decide +kernel) rfl rfl rfl (Nat.le_of_ble_eq_true rfl) rfl ?_
  refine V_aload_n dX2_copyFrom_0 rfl ?_
  refine V_bget dX2_copyFrom_1 fX2_9 (by have := hs.1; omega) (hs.2.1 _) (by (try simp only [mset_s, mset_n, pk_us, pk_un, ne_eq, Nat.reduceEqDiff, Nat.reduceAdd, not_false_eq_true, not_true_eq_false]) <;> rfl) ?_
  refine V_aload_n dX2_copyFrom_4 rfl ?_
  refine V_bget dX2_copyFrom_5 fX2_9 (by have := hr.1; omega) (hr.2.1 _) (by (try simp only [mset_s, mset_n, pk_us, pk_un, ne_eq, Nat.reduceEqDiff, Nat.reduceAdd, not_false_eq_true, not_true_eq_false]) <;> rfl) ?_
  refine V_callSu dX2_copyFrom_8 kX2_23 ykX6_copyNumbers (tX6_copyNumbers (by have := hs.1; omega) (by have := hr.1; omega) (by decide) hs.2.2 hr.2.2) rfl (Nat.le_of_ble_eq_true rfl) ⟨by decide, by decide, by decide, by decide⟩ ?_
  refine V_aload_n dX2_copyFrom_11 rfl ?_
  refine V_aload_n dX2_copyFrom_12 rfl ?_
  refine V_bget dX2_copyFrom_13 fX2_15 (by have := hs.1; omega) (hs.2.1 _) (by (try simp only [mset_s, mset_n, pk_us, pk_un, ne_eq, Nat.reduceEqDiff, Nat.reduceAdd, not_false_eq_true, not_true_eq_false]) <;> rfl) ?_
  refine V_bputi (i0 := 0) dX2_copyFrom_16 fX2_15 (by have := hr.1; omega) (hr.2.1 _) rfl rfl (Nat.le_of_ble_eq_true rfl) (hr.2.1 _) ?_
  refine V_vret dX2_copyFrom_19 rfl rfl rfl ?_
  refine Rwu_i ?_
  rw [mset_n (by omega), mset_n (by omega)]
set_option maxHeartbeats 4000000 in
theorem tX2_sum {q : Nat} (hr : RoK G a q) : Ct G l yX2_sum cX2_sum 6 (some .int) 0 0 0 sz [.ref (a + q)] (B G a C) (Rw G a (.int (sumF (C (q + 1)) 30)) C) := by
  refine Ct.of (own := RX2) (mn := "sum") (L0 := [some (.ref (a + q)), none, none, none, none, none]) (by decide +kernel) rfl rfl rfl (Nat.le_of_ble_eq_true rfl) rfl ?_
  have key : ∀ (m k : Nat) (L5 : Option Value), k + m = 30 → V G l RX2 "sum" cX2_sum 6 (some .int) (rmd 0 0 0) E0 (Qm G (Rw G a (.int (sumF (C (q + 1)) 30)) C) sz 0 0) sz 0 0 13 [some (.ref (a + q)), some (.int (sumF (C (q + 1)) k)), some (.ref (a + (q + 1))), some (.int (nI 30)), some (.int (nI k)), L5] [] (B G a C) := by
    intro m
    induction m with
    | zero =>
      intro k L5 hk
      obtain rfl : k = 30 := by omega
      refine V_iload dX2_sum_13 rfl ?_
      refine V_iload_n dX2_sum_15 rfl ?_
      refine V_icmp_ge dX2_sum_16 (fun _ => ?_) (fun z => absurd ((cle (by repeat (first | with_reducible rfl | with_reducible exact nlit | with_reducible apply nadd | with_reducible apply nmul | with_reducible apply nsub | with_reducible assumption | omega)) (by repeat (first | with_reducible rfl | with_reducible exact nlit | with_reducible apply nadd | with_reducible apply nmul | with_reducible apply nsub | with_reducible assumption | omega)) (by omega) (by omega)).mpr (by omega)) z)
      refine V_iload_n dX2_sum_36 rfl ?_
      refine V_iret dX2_sum_37 rfl rfl rfl ?_
      exact Rw_i rfl rfl
    | succ m ih =>
      intro k L5 hk
      refine V_iload dX2_sum_13 rfl ?_
      refine V_iload_n dX2_sum_15 rfl ?_
      refine V_icmp_ge dX2_sum_16 (fun z => absurd z (fun z => absurd ((cle (by repeat (first | with_reducible rfl | with_reducible exact nlit | with_reducible apply nadd | with_reducible apply nmul | with_reducible apply nsub | with_reducible assumption | omega)) (by repeat (first | with_reducible rfl | with_reducible exact nlit | with_reducible apply nadd | with_reducible apply nmul | with_reducible apply nsub | with_reducible assumption | omega)) (by omega) (by omega)).mp z) (by omega))) (fun _ => ?_)
      refine V_aload_n dX2_sum_19 rfl ?_
      refine V_iload dX2_sum_20 rfl ?_
      refine V_biald dX2_sum_22 (by have := hr.1; omega) (hr.2.2 _) (by repeat (first | with_reducible rfl | with_reducible exact nlit | with_reducible apply nadd | with_reducible apply nmul | with_reducible apply nsub | with_reducible assumption | omega)) (by omega) (by first | decide | omega) (by (try simp only [mset_s, mset_n, pk_us, pk_un, ne_eq, Nat.reduceEqDiff, Nat.reduceAdd, not_false_eq_true, not_true_eq_false]) <;> rfl) ?_
      refine V_istore dX2_sum_23 (by decide) (by dsimp only [List.set] <;> rfl) rfl ?_
      refine V_iload_n dX2_sum_25 rfl ?_
      refine V_iload dX2_sum_26 rfl ?_
      refine V_iadd dX2_sum_28 ?_
      refine V_istore_n dX2_sum_29 (by decide) (by dsimp only [List.set] <;> rfl) rfl ?_
      refine V_iinc dX2_sum_30 rfl (ninc _) (by decide) (by dsimp only [List.set] <;> rfl) ?_
      refine V_goto dX2_sum_33 ?_
      exact ih (k + 1) _ (by omega)
  refine V_iconst (v := 0) dX2_sum_0 (by decide) ?_
  refine V_istore_n dX2_sum_1 (by decide) (by dsimp only [List.set] <;> rfl) rfl ?_
  refine V_aload_n dX2_sum_2 rfl ?_
  refine V_bget dX2_sum_3 fX2_9 (by have := hr.1; omega) (hr.2.1 _) (by (try simp only [mset_s, mset_n, pk_us, pk_un, ne_eq, Nat.reduceEqDiff, Nat.reduceAdd, not_false_eq_true, not_true_eq_false]) <;> rfl) ?_
  refine V_astore_n dX2_sum_6 (by decide) (by dsimp only [List.set] <;> rfl) rfl ?_
  refine V_aload_n dX2_sum_7 rfl ?_
  refine V_balen (v := nI _) dX2_sum_8 (by have := hr.1; omega) (hr.2.2 _) rfl ?_
  refine V_istore_n dX2_sum_9 (by decide) (by dsimp only [List.set] <;> rfl) rfl ?_
  refine V_iconst (v := 0) dX2_sum_10 (by decide) ?_
  refine V_istore dX2_sum_11 (by decide) (by dsimp only [List.set] <;> rfl) rfl ?_
  exact key 30 0 _ rfl
theorem tX6_greatestNumber (v : Int32) {h : Hp} : Ct G l yX6_greatestNumber cX6_greatestNumber 2 (some .int) 0 0 0 sz [.int v] h (Rd (.int (gN v)) h) := by
  refine Ct.of (own := RX6) (mn := "greatestNumber") (L0 := [some (.int v), none]) (by decide +kernel) rfl rfl rfl (Nat.le_of_ble_eq_true rfl) rfl ?_
  refine V_iload_n dX6_greatestNumber_0 rfl ?_
  refine V_if_eq dX6_greatestNumber_1 (fun c1 => ?_) (fun c1 => ?_)
  · refine V_iconst (v := 1) dX6_greatestNumber_14 (by decide) ?_
    refine V_goto dX6_greatestNumber_15 ?_
    refine V_istore_n dX6_greatestNumber_19 (by decide) (by dsimp only [List.set] <;> rfl) rfl ?_
    refine V_iload_n dX6_greatestNumber_20 rfl ?_
    refine V_if_eq dX6_greatestNumber_21 (fun z => absurd z (by decide)) (fun _ => ?_)
    refine V_bipush (v := 29) dX6_greatestNumber_24 (by decide) ?_
    refine V_goto dX6_greatestNumber_26 ?_
    refine V_iret dX6_greatestNumber_31 rfl rfl rfl ?_
    exact Rd_i (by unfold gN; rw [if_pos (Or.inl c1)])
  · refine V_iload_n dX6_greatestNumber_4 rfl ?_
    refine V_iconst (v := 3) dX6_greatestNumber_5 (by decide) ?_
    refine V_icmp_eq dX6_greatestNumber_6 (fun c6 => ?_) (fun c6 => ?_)
    · refine V_iconst (v := 1) dX6_greatestNumber_14 (by decide) ?_
      refine V_goto dX6_greatestNumber_15 ?_
      refine V_istore_n dX6_greatestNumber_19 (by decide) (by dsimp only [List.set] <;> rfl) rfl ?_
      refine V_iload_n dX6_greatestNumber_20 rfl ?_
      refine V_if_eq dX6_greatestNumber_21 (fun z => absurd z (by decide)) (fun _ => ?_)
      refine V_bipush (v := 29) dX6_greatestNumber_24 (by decide) ?_
      refine V_goto dX6_greatestNumber_26 ?_
      refine V_iret dX6_greatestNumber_31 rfl rfl rfl ?_
      exact Rd_i (by unfold gN; rw [if_pos (Or.inr (Or.inl c6))])
    · refine V_iload_n dX6_greatestNumber_9 rfl ?_
      refine V_iconst (v := 4) dX6_greatestNumber_10 (by decide) ?_
      refine V_icmp_ne dX6_greatestNumber_11 (fun c11 => ?_) (fun c11 => ?_)
      · refine V_iconst (v := 0) dX6_greatestNumber_18 (by decide) ?_
        refine V_istore_n dX6_greatestNumber_19 (by decide) (by dsimp only [List.set] <;> rfl) rfl ?_
        refine V_iload_n dX6_greatestNumber_20 rfl ?_
        refine V_if_eq dX6_greatestNumber_21 (fun _ => ?_) (fun z => absurd rfl z)
        refine V_bipush (v := 99) dX6_greatestNumber_29 (by decide) ?_
        refine V_iret dX6_greatestNumber_31 rfl rfl rfl ?_
        exact Rd_i (by unfold gN; rw [if_neg (by intro z; rcases z with z | z | z <;> contradiction)])
      · refine V_iconst (v := 1) dX6_greatestNumber_14 (by decide) ?_
        refine V_goto dX6_greatestNumber_15 ?_
        refine V_istore_n dX6_greatestNumber_19 (by decide) (by dsimp only [List.set] <;> rfl) rfl ?_
        refine V_iload_n dX6_greatestNumber_20 rfl ?_
        refine V_if_eq dX6_greatestNumber_21 (fun z => absurd z (by decide)) (fun _ => ?_)
        refine V_bipush (v := 29) dX6_greatestNumber_24 (by decide) ?_
        refine V_goto dX6_greatestNumber_26 ?_
        refine V_iret dX6_greatestNumber_31 rfl rfl rfl ?_
        exact Rd_i (by unfold gN; rw [if_pos (Or.inr (Or.inr c11))])
theorem tX6_inRange (v x0 : Int32) : Ct G l yX6_inRange cX6_inRange 2 (some .boolean) 1 0 0 sz [.int v, .int x0] (B G a C) (Rw G a (.int (bI (inR v x0))) C) := by
  refine Ct.of (own := RX6) (mn := "inRange") (L0 := [some (.int v), some (.int x0)]) (by decide +kernel) rfl rfl rfl (Nat.le_of_ble_eq_true rfl) rfl ?_
  refine V_iload_n dX6_inRange_0 rfl ?_
  refine V_if_lt dX6_inRange_1 (fun c1 => ?_) (fun c1 => ?_)
  · refine V_iconst (v := 0) dX6_inRange_16 (by decide) ?_
    refine V_zret dX6_inRange_17 rfl (by first | rfl | exact bI_nar) rfl rfl ?_
    exact Rw_i (bI_f (fun z => by have z1 := z.1; rw [i_le] at z1; rw [i_lt] at c1; omega)).symm rfl
  · refine V_iload_n dX6_inRange_4 rfl ?_
    refine V_iload_n dX6_inRange_5 rfl ?_
    refine V_callSw dX6_inRange_6 kX6_249 ykX6_greatestNumber (tX6_greatestNumber v) rfl (Nat.le_of_ble_eq_true rfl) ⟨by decide, by decide, by decide, by decide⟩ ?_
    refine V_icmp_gt dX6_inRange_9 (fun c9 => ?_) (fun c9 => ?_)
    · refine V_iconst (v := 0) dX6_inRange_16 (by decide) ?_
      refine V_zret dX6_inRange_17 rfl (by first | rfl | exact bI_nar) rfl rfl ?_
      exact Rw_i (bI_f (fun z => by have z1 := z.2; rw [i_le] at z1; rw [i_lt] at c9; omega)).symm rfl
    · refine V_iconst (v := 1) dX6_inRange_12 (by decide) ?_
      refine V_goto dX6_inRange_13 ?_
      refine V_zret dX6_inRange_17 rfl (by first | rfl | exact bI_nar) rfl rfl ?_
      exact Rw_i (bI_t ⟨by rw [i_le]; rw [i_lt] at c1; omega, by rw [i_le]; rw [i_lt] at c9; omega⟩).symm rfl
end CLS
