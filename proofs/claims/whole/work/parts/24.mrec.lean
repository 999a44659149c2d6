/-! TryLoopsModel: record, end, dropTry, setTurns, dropLoop. -/
def zClr (z : Nat → Int32) (s k : Nat) : Nat → Int32 := fun j => if s ≤ j ∧ j < s + k then 0 else z j
theorem zClr_0 {z : Nat → Int32} {s : Nat} : zClr z s 0 = z := by
  funext j; unfold zClr; rw [if_neg (by omega)]
theorem zClr_s {z : Nat → Int32} {s k : Nat} : upd (zClr z s k) (s + k) 0 = zClr z s (k + 1) := by
  funext j
  unfold upd zClr
  by_cases h : j = s + k
  · rw [if_pos h, if_pos (by omega)]
  · rw [if_neg h]
    by_cases h2 : s ≤ j ∧ j < s + k
    · rw [if_pos h2, if_pos (by omega)]
    · rw [if_neg h2, if_neg (by omega)]
theorem zClr_n {z : Nat → Int32} {s k j : Nat} (h : j < s) : zClr z s k j = z j := by
  unfold zClr; rw [if_neg (by omega)]
theorem cpy_n {f g : Nat → Int32} {u v k j : Nat} (h : j < v) : va_cpy f g u v k j = g j := by
  unfold va_cpy; rw [if_neg (by omega)]
theorem cpy_r {f : Nat → Int32} {u v k j : Nat} (h : v + k ≤ j) : va_cpy f f u v k j = f j := by
  unfold va_cpy; rw [if_neg (by omega)]
theorem isIx_n {x : Int32} {n : Nat} (h : isIx x n) : x = nI x.toInt.toNat ∧ x.toInt.toNat < n := by
  unfold isIx at h
  exact ⟨nI_ex (by omega), by omega⟩
theorem isIx_nI {n tc : Nat} (h : n < tc) (htc : tc < 1000) : isIx (nI n) tc := by
  unfold isIx; rw [nI_toInt (by omega)]; omega
section MODEL
variable {G : GT} {l : Launch} {sz a : Nat} {C : CT}
theorem mSave_z {st : Nat} : mSave C st 106 = C 106 := by unfold mSave; simp only [mset_s, mset_ss, mset_n, pk_us, pk_un, uus, ne_eq, Nat.reduceEqDiff, Nat.reduceAdd, not_false_eq_true, not_true_eq_false]
set_option maxHeartbeats 4000000 in
theorem tX7_record {st tc : Nat} (hst : st ≤ 4) (h0 : C 105 0 = nI st) (h31 : C 106 31 = nI tc) (htc : tc ≤ 6) : Ct G l yX7_record cX7_record 2 (some .int) 2 0 0 sz [.ref (a + 105)] (B G a C) (Rw G a (.int (if C 106 32 = 1 then -4 else if tc = 6 then -3 else nI tc)) (if C 106 32 = 1 ∨ tc = 6 then C else mset (mSave C st) 106 (zClr (upd (C 106) 32 1) (38 + 25 * tc) 25))) := by
  refine Ct.of (own := RX7) (mn := "record") (L0 := [some (.ref (a + 105)), none]) (by decide +kernel) rfl rfl rfl (Nat.le_of_ble_eq_true rfl) rfl ?_
  refine V_aload_n dX7_record_0 rfl ?_
  refine V_bget dX7_record_1 fX7_7 (by decide) rfl (by (try simp only [mset_s, mset_n, pk_us, pk_un, ne_eq, Nat.reduceEqDiff, Nat.reduceAdd, not_false_eq_true, not_true_eq_false]) <;> rfl) ?_
  refine V_bipush (v := 32) dX7_record_4 (by decide) ?_
  refine V_biald dX7_record_6 (by decide) rfl (by repeat (first | with_reducible rfl | with_reducible exact nlit | with_reducible apply nadd | with_reducible apply nmul | with_reducible apply nsub | with_reducible assumption | omega)) (by omega) (by first | decide | omega) (by (try simp only [mset_s, mset_n, pk_us, pk_un, ne_eq, Nat.reduceEqDiff, Nat.reduceAdd, not_false_eq_true, not_true_eq_false]) <;> rfl) ?_
  refine V_iconst (v := 1) dX7_record_7 (by decide) ?_
  by_cases ho : C 106 32 = 1
  · refine V_icmp_eq dX7_record_8 (fun _ => ?_) (fun z => absurd ho z)
    refine V_aload_n dX7_record_23 rfl ?_
    refine V_bget dX7_record_24 fX7_7 (by decide) rfl (by (try simp only [mset_s, mset_n, pk_us, pk_un, ne_eq, Nat.reduceEqDiff, Nat.reduceAdd, not_false_eq_true, not_true_eq_false]) <;> rfl) ?_
    refine V_bipush (v := 32) dX7_record_27 (by decide) ?_
    refine V_biald dX7_record_29 (by decide) rfl (by repeat (first | with_reducible rfl | with_reducible exact nlit | with_reducible apply nadd | with_reducible apply nmul | with_reducible apply nsub | with_reducible assumption | omega)) (by omega) (by first | decide | omega) (by (try simp only [mset_s, mset_n, pk_us, pk_un, ne_eq, Nat.reduceEqDiff, Nat.reduceAdd, not_false_eq_true, not_true_eq_false]) <;> rfl) ?_
    refine V_iconst (v := 1) dX7_record_30 (by decide) ?_
    refine V_icmp_ne dX7_record_31 (fun z => absurd z (fun z => z ho)) (fun _ => ?_)
    refine V_bipush (v := (-4)) dX7_record_34 (by decide) ?_
    refine V_goto dX7_record_36 ?_
    refine V_iret dX7_record_41 rfl rfl rfl ?_
    exact Rw_i (by rw [if_pos ho]) (by rw [if_pos (Or.inl ho)])
  refine V_icmp_eq dX7_record_8 (fun z => absurd z ho) (fun _ => ?_)
  refine V_aload_n dX7_record_11 rfl ?_
  refine V_bget dX7_record_12 fX7_7 (by decide) rfl (by (try simp only [mset_s, mset_n, pk_us, pk_un, ne_eq, Nat.reduceEqDiff, Nat.reduceAdd, not_false_eq_true, not_true_eq_false]) <;> rfl) ?_
  refine V_bipush (v := 31) dX7_record_15 (by decide) ?_
  refine V_biald dX7_record_17 (by decide) rfl (by repeat (first | with_reducible rfl | with_reducible exact nlit | with_reducible apply nadd | with_reducible apply nmul | with_reducible apply nsub | with_reducible assumption | omega)) (by omega) (by first | decide | omega) (by (try simp only [mset_s, mset_n, pk_us, pk_un, ne_eq, Nat.reduceEqDiff, Nat.reduceAdd, not_false_eq_true, not_true_eq_false]) <;> rfl) ?_
  rw [h31]
  refine V_bipush (v := 6) dX7_record_18 (by decide) ?_
  by_cases h6 : tc = 6
  · refine V_icmp_ne dX7_record_20 (fun z => absurd z (fun z => z ((ceq (by repeat (first | with_reducible rfl | with_reducible exact nlit | with_reducible apply nadd | with_reducible apply nmul | with_reducible apply nsub | with_reducible assumption | omega)) (by repeat (first | with_reducible rfl | with_reducible exact nlit | with_reducible apply nadd | with_reducible apply nmul | with_reducible apply nsub | with_reducible assumption | omega)) (by omega) (by omega)).mpr (by omega)))) (fun _ => ?_)
    refine V_aload_n dX7_record_23 rfl ?_
    refine V_bget dX7_record_24 fX7_7 (by decide) rfl (by (try simp only [mset_s, mset_n, pk_us, pk_un, ne_eq, Nat.reduceEqDiff, Nat.reduceAdd, not_false_eq_true, not_true_eq_false]) <;> rfl) ?_
    refine V_bipush (v := 32) dX7_record_27 (by decide) ?_
    refine V_biald dX7_record_29 (by decide) rfl (by repeat (first | with_reducible rfl | with_reducible exact nlit | with_reducible apply nadd | with_reducible apply nmul | with_reducible apply nsub | with_reducible assumption | omega)) (by omega) (by first | decide | omega) (by (try simp only [mset_s, mset_n, pk_us, pk_un, ne_eq, Nat.reduceEqDiff, Nat.reduceAdd, not_false_eq_true, not_true_eq_false]) <;> rfl) ?_
    refine V_iconst (v := 1) dX7_record_30 (by decide) ?_
    refine V_icmp_ne dX7_record_31 (fun _ => ?_) (fun z => absurd z ho)
    refine V_bipush (v := (-3)) dX7_record_39 (by decide) ?_
    refine V_iret dX7_record_41 rfl rfl rfl ?_
    exact Rw_i (by rw [if_neg ho, if_pos h6]) (by rw [if_pos (Or.inr h6)])
  refine V_icmp_ne dX7_record_20 (fun _ => ?_) (fun z => absurd z ((fun z => absurd ((ceq (by repeat (first | with_reducible rfl | with_reducible exact nlit | with_reducible apply nadd | with_reducible apply nmul | with_reducible apply nsub | with_reducible assumption | omega)) (by repeat (first | with_reducible rfl | with_reducible exact nlit | with_reducible apply nadd | with_reducible apply nmul | with_reducible apply nsub | with_reducible assumption | omega)) (by omega) (by omega)).mp z) (by omega))))
  refine V_aload_n dX7_record_42 rfl ?_
  refine V_callVu dX7_record_43 kX7_53 ykX7_save (by decide) rfl rfl (tX7_save hst h0) rfl (Nat.le_of_ble_eq_true rfl) ⟨by decide, by decide, by decide, by decide⟩ ?_
  refine V_aload_n dX7_record_46 rfl ?_
  refine V_bget dX7_record_47 fX7_7 (by decide) rfl (by (try simp only [mset_s, mset_n, pk_us, pk_un, ne_eq, Nat.reduceEqDiff, Nat.reduceAdd, not_false_eq_true, not_true_eq_false]) <;> rfl) ?_
  refine V_bipush (v := 32) dX7_record_50 (by decide) ?_
  refine V_iconst (v := 1) dX7_record_52 (by decide) ?_
  refine V_biast dX7_record_53 (by decide) (fun _ => rfl) (by repeat (first | with_reducible rfl | with_reducible exact nlit | with_reducible apply nadd | with_reducible apply nmul | with_reducible apply nsub | with_reducible assumption | omega)) (by omega) (by first | decide | omega) ?_
  rw [mSave_z]
  have key : ∀ (n k : Nat), k + n = 25 → V G l RX7 "record" cX7_record 2 (some .int) (rmd 2 0 0) E0 (Qm G (Rw G a (.int (if C 106 32 = 1 then -4 else if tc = 6 then -3 else nI tc)) (if C 106 32 = 1 ∨ tc = 6 then C else mset (mSave C st) 106 (zClr (upd (C 106) 32 1) (38 + 25 * tc) 25))) sz 0 0) sz 0 0 56 [some (.ref (a + 105)), some (.int (nI k))] [] (B G a (mset (mSave C st) 106 (zClr (upd (C 106) 32 1) (38 + 25 * tc) k))) := by
    intro n
    induction n with
    | zero =>
      intro k hk
      obtain rfl : k = 25 := by omega
      refine V_iload_n dX7_record_56 rfl ?_
      refine V_bipush (v := 25) dX7_record_57 (by decide) ?_
      refine V_icmp_ge dX7_record_59 (fun _ => ?_) (fun z => absurd ((cle (by repeat (first | with_reducible rfl | with_reducible exact nlit | with_reducible apply nadd | with_reducible apply nmul | with_reducible apply nsub | with_reducible assumption | omega)) (by repeat (first | with_reducible rfl | with_reducible exact nlit | with_reducible apply nadd | with_reducible apply nmul | with_reducible apply nsub | with_reducible assumption | omega)) (by omega) (by omega)).mpr (by omega)) z)
      refine V_aload_n dX7_record_89 rfl ?_
      refine V_bget dX7_record_90 fX7_7 (by decide) rfl (by (try simp only [mset_s, mset_n, pk_us, pk_un, ne_eq, Nat.reduceEqDiff, Nat.reduceAdd, not_false_eq_true, not_true_eq_false]) <;> rfl) ?_
      refine V_bipush (v := 31) dX7_record_93 (by decide) ?_
      refine V_biald dX7_record_95 (by decide) rfl (by repeat (first | with_reducible rfl | with_reducible exact nlit | with_reducible apply nadd | with_reducible apply nmul | with_reducible apply nsub | with_reducible assumption | omega)) (by omega) (by first | decide | omega) (by (try simp only [mset_s, mset_n, pk_us, pk_un, ne_eq, Nat.reduceEqDiff, Nat.reduceAdd, not_false_eq_true, not_true_eq_false]) <;> rfl) ?_
      rw [zClr_n (by omega), pk_un (by decide), h31]
      refine V_iret dX7_record_96 rfl rfl rfl ?_
      exact Rw_i (by rw [if_neg ho, if_neg h6]) (by rw [if_neg (by rintro (z | z) <;> contradiction)])
    | succ n ih =>
      intro k hk
      refine V_iload_n dX7_record_56 rfl ?_
      refine V_bipush (v := 25) dX7_record_57 (by decide) ?_
      refine V_icmp_ge dX7_record_59 (fun z => absurd z (fun z => absurd ((cle (by repeat (first | with_reducible rfl | with_reducible exact nlit | with_reducible apply nadd | with_reducible apply nmul | with_reducible apply nsub | with_reducible assumption | omega)) (by repeat (first | with_reducible rfl | with_reducible exact nlit | with_reducible apply nadd | with_reducible apply nmul | with_reducible apply nsub | with_reducible assumption | omega)) (by omega) (by omega)).mp z) (by omega))) (fun _ => ?_)
      refine V_aload_n dX7_record_62 rfl ?_
      refine V_bget dX7_record_63 fX7_7 (by decide) rfl (by (try simp only [mset_s, mset_n, pk_us, pk_un, ne_eq, Nat.reduceEqDiff, Nat.reduceAdd, not_false_eq_true, not_true_eq_false]) <;> rfl) ?_
      refine V_bipush (v := 38) dX7_record_66 (by decide) ?_
      refine V_bipush (v := 25) dX7_record_68 (by decide) ?_
      refine V_aload_n dX7_record_70 rfl ?_
      refine V_bget dX7_record_71 fX7_7 (by decide) rfl (by (try simp only [mset_s, mset_n, pk_us, pk_un, ne_eq, Nat.reduceEqDiff, Nat.reduceAdd, not_false_eq_true, not_true_eq_false]) <;> rfl) ?_
      refine V_bipush (v := 31) dX7_record_74 (by decide) ?_
      refine V_biald dX7_record_76 (by decide) rfl (by repeat (first | with_reducible rfl | with_reducible exact nlit | with_reducible apply nadd | with_reducible apply nmul | with_reducible apply nsub | with_reducible assumption | omega)) (by omega) (by first | decide | omega) (by (try simp only [mset_s, mset_n, pk_us, pk_un, ne_eq, Nat.reduceEqDiff, Nat.reduceAdd, not_false_eq_true, not_true_eq_false]) <;> rfl) ?_
      rw [zClr_n (by omega), pk_un (by decide), h31]
      refine V_imul dX7_record_77 ?_
      refine V_iadd dX7_record_78 ?_
      refine V_iload_n dX7_record_79 rfl ?_
      refine V_iadd dX7_record_80 ?_
      refine V_iconst (v := 0) dX7_record_81 (by decide) ?_
      refine V_biast dX7_record_82 (by decide) (fun _ => rfl) (by repeat (first | with_reducible rfl | with_reducible exact nlit | with_reducible apply nadd | with_reducible apply nmul | with_reducible apply nsub | with_reducible assumption | omega)) (by omega) (by first | decide | omega) ?_
      refine V_iinc dX7_record_83 rfl (ninc _) (by decide) (by dsimp only [List.set] <;> rfl) ?_
      refine V_goto dX7_record_86 ?_
      simp only [mset_s, mset_ss, zClr_s]
      exact ih (k + 1) (by omega)
  refine V_iconst (v := 0) dX7_record_54 (by decide) ?_
  refine V_istore_n dX7_record_55 (by decide) (by dsimp only [List.set] <;> rfl) ?_
  have k0 := key 25 0 rfl
  rw [zClr_0] at k0
  exact k0
set_option maxHeartbeats 4000000 in
theorem tX7_end {st tc len : Nat} (hst : st ≤ 4) (h0 : C 105 0 = nI st) (h31 : C 106 31 = nI tc) (htc : tc ≤ 6) (hl : C 106 (38 + 25 * tc) = nI len) (hlen : len ≤ 12) : Ct G l yX7_end cX7_end 1 (some .int) 2 0 0 sz [.ref (a + 105)] (B G a C) (Rw G a (.int (if C 106 32 = 0 then -4 else if len = 0 then 100 else nI tc)) (if C 106 32 = 0 then C else if len = 0 then mset (mSave C st) 106 (upd (C 106) 32 0) else mset (mSave C st) 106 (upd (upd (C 106) 32 0) 31 (nI (tc + 1))))) := by
  refine Ct.of (own := RX7) (mn := "end") (L0 := [some (.ref (a + 105))]) (by decide +kernel) rfl rfl rfl (Nat.le_of_ble_eq_true rfl) rfl ?_
  refine V_aload_n dX7_end_0 rfl ?_
  refine V_bget dX7_end_1 fX7_7 (by decide) rfl (by (try simp only [mset_s, mset_n, pk_us, pk_un, ne_eq, Nat.reduceEqDiff, Nat.reduceAdd, not_false_eq_true, not_true_eq_false]) <;> rfl) ?_
  refine V_bipush (v := 32) dX7_end_4 (by decide) ?_
  refine V_biald dX7_end_6 (by decide) rfl (by repeat (first | with_reducible rfl | with_reducible exact nlit | with_reducible apply nadd | with_reducible apply nmul | with_reducible apply nsub | with_reducible assumption | omega)) (by omega) (by first | decide | omega) (by (try simp only [mset_s, mset_n, pk_us, pk_un, ne_eq, Nat.reduceEqDiff, Nat.reduceAdd, not_false_eq_true, not_true_eq_false]) <;> rfl) ?_
  by_cases ho : C 106 32 = 0
  · refine V_if_ne dX7_end_7 (fun z => absurd z (fun z => z ho)) (fun _ => ?_)
    refine V_bipush (v := (-4)) dX7_end_10 (by decide) ?_
    refine V_iret dX7_end_12 rfl rfl rfl ?_
    exact Rw_i (by rw [if_pos ho]) (by rw [if_pos ho])
  refine V_if_ne dX7_end_7 (fun _ => ?_) (fun z => absurd z ho)
  refine V_aload_n dX7_end_13 rfl ?_
  refine V_callVu dX7_end_14 kX7_53 ykX7_save (by decide) rfl rfl (tX7_save hst h0) rfl (Nat.le_of_ble_eq_true rfl) ⟨by decide, by decide, by decide, by decide⟩ ?_
  refine V_aload_n dX7_end_17 rfl ?_
  refine V_bget dX7_end_18 fX7_7 (by decide) rfl (by (try simp only [mset_s, mset_n, pk_us, pk_un, ne_eq, Nat.reduceEqDiff, Nat.reduceAdd, not_false_eq_true, not_true_eq_false]) <;> rfl) ?_
  refine V_bipush (v := 32) dX7_end_21 (by decide) ?_
  refine V_iconst (v := 0) dX7_end_23 (by decide) ?_
  refine V_biast dX7_end_24 (by decide) (fun _ => rfl) (by repeat (first | with_reducible rfl | with_reducible exact nlit | with_reducible apply nadd | with_reducible apply nmul | with_reducible apply nsub | with_reducible assumption | omega)) (by omega) (by first | decide | omega) ?_
  refine V_aload_n dX7_end_25 rfl ?_
  refine V_aload_n dX7_end_26 rfl ?_
  refine V_bget dX7_end_27 fX7_7 (by decide) rfl (by (try simp only [mset_s, mset_n, pk_us, pk_un, ne_eq, Nat.reduceEqDiff, Nat.reduceAdd, not_false_eq_true, not_true_eq_false]) <;> rfl) ?_
  refine V_bipush (v := 31) dX7_end_30 (by decide) ?_
  refine V_biald dX7_end_32 (by decide) rfl (by repeat (first | with_reducible rfl | with_reducible exact nlit | with_reducible apply nadd | with_reducible apply nmul | with_reducible apply nsub | with_reducible assumption | omega)) (by omega) (by first | decide | omega) (by (try simp only [mset_s, mset_n, pk_us, pk_un, ne_eq, Nat.reduceEqDiff, Nat.reduceAdd, not_false_eq_true, not_true_eq_false]) <;> rfl) ?_
  rw [mSave_z, h31]
  refine V_callVw dX7_end_33 kX7_60 ykX7_sizeOf (by decide) rfl rfl (tX7_sizeOf (by omega)) rfl (Nat.le_of_ble_eq_true rfl) ⟨by decide, by decide, by decide, by decide⟩ ?_
  rw [mset_s, pk_un (by omega), hl]
  by_cases h6 : len = 0
  · refine V_if_ne dX7_end_36 (fun z => absurd z (fun z => z ((ceq (by repeat (first | with_reducible rfl | with_reducible exact nlit | with_reducible apply nadd | with_reducible apply nmul | with_reducible apply nsub | with_reducible assumption | omega)) (by repeat (first | with_reducible rfl | with_reducible exact nlit | with_reducible apply nadd | with_reducible apply nmul | with_reducible apply nsub | with_reducible assumption | omega)) (by omega) (by omega)).mpr (by omega)))) (fun _ => ?_)
    refine V_bipush (v := 100) dX7_end_39 (by decide) ?_
    refine V_iret dX7_end_41 rfl rfl rfl ?_
    exact Rw_i (by rw [if_neg ho, if_pos h6]) (by rw [if_neg ho, if_pos h6])
  refine V_if_ne dX7_end_36 (fun _ => ?_) (fun z => absurd z ((fun z => absurd ((ceq (by repeat (first | with_reducible rfl | with_reducible exact nlit | with_reducible apply nadd | with_reducible apply nmul | with_reducible apply nsub | with_reducible assumption | omega)) (by repeat (first | with_reducible rfl | with_reducible exact nlit | with_reducible apply nadd | with_reducible apply nmul | with_reducible apply nsub | with_reducible assumption | omega)) (by omega) (by omega)).mp z) (by omega))))
  refine V_aload_n dX7_end_42 rfl ?_
  refine V_bget dX7_end_43 fX7_7 (by decide) rfl (by (try simp only [mset_s, mset_n, pk_us, pk_un, ne_eq, Nat.reduceEqDiff, Nat.reduceAdd, not_false_eq_true, not_true_eq_false]) <;> rfl) ?_
  refine V_bipush (v := 31) dX7_end_46 (by decide) ?_
  refine V_dup2 dX7_end_48 rfl rfl ?_
  refine V_biald dX7_end_49 (by decide) rfl (by repeat (first | with_reducible rfl | with_reducible exact nlit | with_reducible apply nadd | with_reducible apply nmul | with_reducible apply nsub | with_reducible assumption | omega)) (by omega) (by first | decide | omega) (by (try simp only [mset_s, mset_n, pk_us, pk_un, ne_eq, Nat.reduceEqDiff, Nat.reduceAdd, not_false_eq_true, not_true_eq_false]) <;> rfl) ?_
  rw [h31]
  refine V_iconst (v := 1) dX7_end_50 (by decide) ?_
  refine V_iadd dX7_end_51 ?_
  rw [show nI tc + 1 = nI (tc + 1) from nI_1 tc]
  refine V_biast dX7_end_52 (by decide) (fun _ => rfl) (by repeat (first | with_reducible rfl | with_reducible exact nlit | with_reducible apply nadd | with_reducible apply nmul | with_reducible apply nsub | with_reducible assumption | omega)) (by omega) (by first | decide | omega) ?_
  refine V_aload_n dX7_end_53 rfl ?_
  refine V_bget dX7_end_54 fX7_7 (by decide) rfl (by (try simp only [mset_s, mset_n, pk_us, pk_un, ne_eq, Nat.reduceEqDiff, Nat.reduceAdd, not_false_eq_true, not_true_eq_false]) <;> rfl) ?_
  refine V_bipush (v := 31) dX7_end_57 (by decide) ?_
  refine V_biald dX7_end_59 (by decide) rfl (by repeat (first | with_reducible rfl | with_reducible exact nlit | with_reducible apply nadd | with_reducible apply nmul | with_reducible apply nsub | with_reducible assumption | omega)) (by omega) (by first | decide | omega) (by (try simp only [mset_s, mset_n, pk_us, pk_un, ne_eq, Nat.reduceEqDiff, Nat.reduceAdd, not_false_eq_true, not_true_eq_false]) <;> rfl) ?_
  simp only [mset_s, mset_ss]
  refine V_iconst (v := 1) dX7_end_60 (by decide) ?_
  refine V_isub dX7_end_61 ?_
  refine V_iret dX7_end_62 rfl rfl rfl ?_
  exact Rw_i (by rw [if_neg ho, if_neg h6]; exact nI_pred tc) (by rw [if_neg ho, if_neg h6])
set_option maxHeartbeats 4000000 in
def zDT (z : Nat → Int32) (tc n : Nat) : Nat → Int32 := va_cpy (upd z 31 (nI (tc - 1))) (upd z 31 (nI (tc - 1))) (38 + 25 * n + 25) (38 + 25 * n) (150 - 25 * n)
theorem tX7_dropTry_o {tc : Nat} (x : Int32) (h31 : C 106 31 = nI tc) (htc : tc ≤ 6) (hx : ¬ isIx x tc) : Ct G l yX7_dropTry cX7_dropTry 3 (some .int) 2 0 0 sz [.ref (a + 105), .int x] (B G a C) (Rw G a (.int (-1)) C) := by
  refine Ct.of (own := RX7) (mn := "dropTry") (L0 := [some (.ref (a + 105)), some (.int x), none]) (by decide +kernel) rfl rfl rfl (Nat.le_of_ble_eq_true rfl) rfl ?_
  refine V_aload_n dX7_dropTry_0 rfl ?_
  refine V_iload_n dX7_dropTry_1 rfl ?_
  refine V_callVw dX7_dropTry_2 kX7_67 ykX7_isTry (by decide) rfl rfl (tX7_isTry _ h31 (by omega)) rfl (Nat.le_of_ble_eq_true rfl) ⟨by decide, by decide, by decide, by decide⟩ ?_
  refine V_if_ne dX7_dropTry_5 (fun z => absurd z (fun z => z (bI_f hx))) (fun _ => ?_)
  refine V_iconst (v := (-1)) dX7_dropTry_8 (by decide) ?_
  refine V_iret dX7_dropTry_9 rfl rfl rfl ?_
  exact Rw_i rfl rfl
set_option maxHeartbeats 4000000 in
theorem tX7_dropTry {st tc n : Nat} (hst : st ≤ 4) (h0 : C 105 0 = nI st) (h31 : C 106 31 = nI tc) (htc : tc ≤ 6) (hn : n < tc) : Ct G l yX7_dropTry cX7_dropTry 3 (some .int) 2 0 0 sz [.ref (a + 105), .int (nI n)] (B G a C) (Rw G a (.int (nI (tc - 1))) (mset (mSave C st) 106 (zDT (C 106) tc n))) := by
  refine Ct.of (own := RX7) (mn := "dropTry") (L0 := [some (.ref (a + 105)), some (.int (nI n)), none]) (by decide +kernel) rfl rfl rfl (Nat.le_of_ble_eq_true rfl) rfl ?_
  refine V_aload_n dX7_dropTry_0 rfl ?_
  refine V_iload_n dX7_dropTry_1 rfl ?_
  refine V_callVw dX7_dropTry_2 kX7_67 ykX7_isTry (by decide) rfl rfl (tX7_isTry _ h31 (by omega)) rfl (Nat.le_of_ble_eq_true rfl) ⟨by decide, by decide, by decide, by decide⟩ ?_
  refine V_if_ne dX7_dropTry_5 (fun _ => ?_) (fun z => absurd z ((bI_ne0.mpr (isIx_nI hn (by omega)))))
  refine V_aload_n dX7_dropTry_10 rfl ?_
  refine V_callVu dX7_dropTry_11 kX7_53 ykX7_save (by decide) rfl rfl (tX7_save hst h0) rfl (Nat.le_of_ble_eq_true rfl) ⟨by decide, by decide, by decide, by decide⟩ ?_
  refine V_aload_n dX7_dropTry_14 rfl ?_
  refine V_bget dX7_dropTry_15 fX7_7 (by decide) rfl (by (try simp only [mset_s, mset_n, pk_us, pk_un, ne_eq, Nat.reduceEqDiff, Nat.reduceAdd, not_false_eq_true, not_true_eq_false]) <;> rfl) ?_
  refine V_bipush (v := 31) dX7_dropTry_18 (by decide) ?_
  refine V_dup2 dX7_dropTry_20 rfl rfl ?_
  refine V_biald dX7_dropTry_21 (by decide) rfl (by repeat (first | with_reducible rfl | with_reducible exact nlit | with_reducible apply nadd | with_reducible apply nmul | with_reducible apply nsub | with_reducible assumption | omega)) (by omega) (by first | decide | omega) (by (try simp only [mset_s, mset_n, pk_us, pk_un, ne_eq, Nat.reduceEqDiff, Nat.reduceAdd, not_false_eq_true, not_true_eq_false]) <;> rfl) ?_
  rw [mSave_z, h31]
  refine V_iconst (v := 1) dX7_dropTry_22 (by decide) ?_
  refine V_isub dX7_dropTry_23 ?_
  rw [show nI tc - 1 = nI (tc - 1) from nsub rfl nlit (by omega)]
  refine V_biast dX7_dropTry_24 (by decide) (fun _ => rfl) (by repeat (first | with_reducible rfl | with_reducible exact nlit | with_reducible apply nadd | with_reducible apply nmul | with_reducible apply nsub | with_reducible assumption | omega)) (by omega) (by first | decide | omega) ?_
  refine V_bipush (v := 38) dX7_dropTry_25 (by decide) ?_
  refine V_bipush (v := 25) dX7_dropTry_27 (by decide) ?_
  refine V_iload_n dX7_dropTry_29 rfl ?_
  refine V_imul dX7_dropTry_30 ?_
  refine V_iadd dX7_dropTry_31 ?_
  simp only [mSave_z]
  rw [show (38 : Int32) + 25 * nI n = nI (38 + 25 * n) from nadd nlit (nmul nlit rfl)]
  have key : ∀ (m k : Nat), k + m = 150 - 25 * n → V G l RX7 "dropTry" cX7_dropTry 3 (some .int) (rmd 2 0 0) E0 (Qm G (Rw G a (.int (nI (tc - 1))) (mset (mSave C st) 106 (zDT (C 106) tc n))) sz 0 0) sz 0 0 33 [some (.ref (a + 105)), some (.int (nI n)), some (.int (nI (38 + 25 * n + k)))] [] (B G a (mset (mSave C st) 106 (va_cpy (upd (C 106) 31 (nI (tc - 1))) (upd (C 106) 31 (nI (tc - 1))) (38 + 25 * n + 25) (38 + 25 * n) k))) := by
    intro m
    induction m with
    | zero =>
      intro k hk
      obtain rfl : k = 150 - 25 * n := by omega
      refine V_iload_n dX7_dropTry_33 rfl ?_
      refine V_sipush (v := 188) dX7_dropTry_34 (by decide) ?_
      refine V_icmp_ge dX7_dropTry_37 (fun _ => ?_) (fun z => absurd ((cle (by repeat (first | with_reducible rfl | with_reducible exact nlit | with_reducible apply nadd | with_reducible apply nmul | with_reducible apply nsub | with_reducible assumption | omega)) (by repeat (first | with_reducible rfl | with_reducible exact nlit | with_reducible apply nadd | with_reducible apply nmul | with_reducible apply nsub | with_reducible assumption | omega)) (by omega) (by omega)).mpr (by omega)) z)
      refine V_aload_n dX7_dropTry_61 rfl ?_
      refine V_bget dX7_dropTry_62 fX7_7 (by decide) rfl (by (try simp only [mset_s, mset_n, pk_us, pk_un, ne_eq, Nat.reduceEqDiff, Nat.reduceAdd, not_false_eq_true, not_true_eq_false]) <;> rfl) ?_
      refine V_bipush (v := 31) dX7_dropTry_65 (by decide) ?_
      refine V_biald dX7_dropTry_67 (by decide) rfl (by repeat (first | with_reducible rfl | with_reducible exact nlit | with_reducible apply nadd | with_reducible apply nmul | with_reducible apply nsub | with_reducible assumption | omega)) (by omega) (by first | decide | omega) (by (try simp only [mset_s, mset_n, pk_us, pk_un, ne_eq, Nat.reduceEqDiff, Nat.reduceAdd, not_false_eq_true, not_true_eq_false]) <;> rfl) ?_
      rw [cpy_n (by omega), pk_us]
      refine V_iret dX7_dropTry_68 rfl rfl rfl ?_
      exact Rw_i rfl rfl
    | succ m ih =>
      intro k hk
      refine V_iload_n dX7_dropTry_33 rfl ?_
      refine V_sipush (v := 188) dX7_dropTry_34 (by decide) ?_
      refine V_icmp_ge dX7_dropTry_37 (fun z => absurd z (fun z => absurd ((cle (by repeat (first | with_reducible rfl | with_reducible exact nlit | with_reducible apply nadd | with_reducible apply nmul | with_reducible apply nsub | with_reducible assumption | omega)) (by repeat (first | with_reducible rfl | with_reducible exact nlit | with_reducible apply nadd | with_reducible apply nmul | with_reducible apply nsub | with_reducible assumption | omega)) (by omega) (by omega)).mp z) (by omega))) (fun _ => ?_)
      refine V_aload_n dX7_dropTry_40 rfl ?_
      refine V_bget dX7_dropTry_41 fX7_7 (by decide) rfl (by (try simp only [mset_s, mset_n, pk_us, pk_un, ne_eq, Nat.reduceEqDiff, Nat.reduceAdd, not_false_eq_true, not_true_eq_false]) <;> rfl) ?_
      refine V_iload_n dX7_dropTry_44 rfl ?_
      refine V_aload_n dX7_dropTry_45 rfl ?_
      refine V_bget dX7_dropTry_46 fX7_7 (by decide) rfl (by (try simp only [mset_s, mset_n, pk_us, pk_un, ne_eq, Nat.reduceEqDiff, Nat.reduceAdd, not_false_eq_true, not_true_eq_false]) <;> rfl) ?_
      refine V_iload_n dX7_dropTry_49 rfl ?_
      refine V_bipush (v := 25) dX7_dropTry_50 (by decide) ?_
      refine V_iadd dX7_dropTry_52 ?_
      refine V_biald dX7_dropTry_53 (by decide) rfl (by repeat (first | with_reducible rfl | with_reducible exact nlit | with_reducible apply nadd | with_reducible apply nmul | with_reducible apply nsub | with_reducible assumption | omega)) (by omega) (by first | decide | omega) (by (try simp only [mset_s, mset_n, pk_us, pk_un, ne_eq, Nat.reduceEqDiff, Nat.reduceAdd, not_false_eq_true, not_true_eq_false]) <;> rfl) ?_
      rw [cpy_r (by omega), show 38 + 25 * n + k + 25 = 38 + 25 * n + 25 + k by omega]
      refine V_biast dX7_dropTry_54 (by decide) (fun _ => rfl) (by repeat (first | with_reducible rfl | with_reducible exact nlit | with_reducible apply nadd | with_reducible apply nmul | with_reducible apply nsub | with_reducible assumption | omega)) (by omega) (by first | decide | omega) ?_
      refine V_iinc dX7_dropTry_55 rfl (ninc _) (by decide) (by dsimp only [List.set] <;> rfl) ?_
      refine V_goto dX7_dropTry_58 ?_
      simp only [mset_s, mset_ss, cpy_s]
      exact ih (k + 1) (by omega)
  refine V_istore_n dX7_dropTry_32 (by decide) (by dsimp only [List.set] <;> rfl) ?_
  have k0 := key (150 - 25 * n) 0 (by omega)
  rw [cpy_0] at k0
  exact k0
set_option maxHeartbeats 4000000 in
theorem tX7_setTurns_o {lc : Nat} (x t : Int32) (h33 : C 106 33 = nI lc) (hlc : lc ≤ 6) (hx : ¬ isIx x lc) : Ct G l yX7_setTurns cX7_setTurns 4 (some .int) 2 0 0 sz [.ref (a + 105), .int x, .int t] (B G a C) (Rw G a (.int (-1)) C) := by
  refine Ct.of (own := RX7) (mn := "setTurns") (L0 := [some (.ref (a + 105)), some (.int x), some (.int t), none]) (by decide +kernel) rfl rfl rfl (Nat.le_of_ble_eq_true rfl) rfl ?_
  refine V_aload_n dX7_setTurns_0 rfl ?_
  refine V_iload_n dX7_setTurns_1 rfl ?_
  refine V_callVw dX7_setTurns_2 kX7_92 ykX7_isLoop (by decide) rfl rfl (tX7_isLoop _ h33 (by omega)) rfl (Nat.le_of_ble_eq_true rfl) ⟨by decide, by decide, by decide, by decide⟩ ?_
  refine V_if_ne dX7_setTurns_5 (fun z => absurd z (fun z => z (bI_f hx))) (fun _ => ?_)
  refine V_iconst (v := (-1)) dX7_setTurns_8 (by decide) ?_
  refine V_iret dX7_setTurns_9 rfl rfl rfl ?_
  exact Rw_i rfl rfl
set_option maxHeartbeats 4000000 in
theorem tX7_setTurns {st lc n : Nat} (t : Int32) (hst : st ≤ 4) (h0 : C 105 0 = nI st) (h33 : C 106 33 = nI lc) (hlc : lc ≤ 6) (hn : n < lc) : Ct G l yX7_setTurns cX7_setTurns 4 (some .int) 2 0 0 sz [.ref (a + 105), .int (nI n), .int t] (B G a C) (Rw G a (.int (if ¬ (1 ≤ t ∧ t ≤ 99) then -2 else if C 106 (214 + 38 * n) = t then -5 else C 106 (214 + 38 * n))) (if ¬ (1 ≤ t ∧ t ≤ 99) then C else if C 106 (214 + 38 * n) = t then C else mset (mSave C st) 106 (upd (C 106) (214 + 38 * n) t))) := by
  refine Ct.of (own := RX7) (mn := "setTurns") (L0 := [some (.ref (a + 105)), some (.int (nI n)), some (.int t), none]) (by decide +kernel) rfl rfl rfl (Nat.le_of_ble_eq_true rfl) rfl ?_
  refine V_aload_n dX7_setTurns_0 rfl ?_
  refine V_iload_n dX7_setTurns_1 rfl ?_
  refine V_callVw dX7_setTurns_2 kX7_92 ykX7_isLoop (by decide) rfl rfl (tX7_isLoop _ h33 (by omega)) rfl (Nat.le_of_ble_eq_true rfl) ⟨by decide, by decide, by decide, by decide⟩ ?_
  refine V_if_ne dX7_setTurns_5 (fun _ => ?_) (fun z => absurd z ((bI_ne0.mpr (isIx_nI hn (by omega)))))
  refine V_iload_n dX7_setTurns_10 rfl ?_
  refine V_iconst (v := 1) dX7_setTurns_11 (by decide) ?_
  refine V_bipush (v := 99) dX7_setTurns_12 (by decide) ?_
  refine V_callSw dX7_setTurns_14 kX7_37 ykX7_in (tX7_in _ _ _) rfl (Nat.le_of_ble_eq_true rfl) ⟨by decide, by decide, by decide, by decide⟩ ?_
  by_cases ht : 1 ≤ t ∧ t ≤ 99
  rotate_left
  · refine V_if_ne dX7_setTurns_17 (fun z => absurd z (fun z => z (bI_f ht))) (fun _ => ?_)
    refine V_bipush (v := (-2)) dX7_setTurns_20 (by decide) ?_
    refine V_iret dX7_setTurns_22 rfl rfl rfl ?_
    exact Rw_i (by rw [if_pos ht]) (by rw [if_pos ht])
  refine V_if_ne dX7_setTurns_17 (fun _ => ?_) (fun z => absurd z ((bI_ne0.mpr ht)))
  refine V_aload_n dX7_setTurns_23 rfl ?_
  refine V_bget dX7_setTurns_24 fX7_7 (by decide) rfl (by (try simp only [mset_s, mset_n, pk_us, pk_un, ne_eq, Nat.reduceEqDiff, Nat.reduceAdd, not_false_eq_true, not_true_eq_false]) <;> rfl) ?_
  refine V_sipush (v := 213) dX7_setTurns_27 (by decide) ?_
  refine V_bipush (v := 38) dX7_setTurns_30 (by decide) ?_
  refine V_iload_n dX7_setTurns_32 rfl ?_
  refine V_imul dX7_setTurns_33 ?_
  refine V_iadd dX7_setTurns_34 ?_
  refine V_iconst (v := 1) dX7_setTurns_35 (by decide) ?_
  refine V_iadd dX7_setTurns_36 ?_
  refine V_biald dX7_setTurns_37 (by decide) rfl (by repeat (first | with_reducible rfl | with_reducible exact nlit | with_reducible apply nadd | with_reducible apply nmul | with_reducible apply nsub | with_reducible assumption | omega)) (by omega) (by first | decide | omega) (by (try simp only [mset_s, mset_n, pk_us, pk_un, ne_eq, Nat.reduceEqDiff, Nat.reduceAdd, not_false_eq_true, not_true_eq_false]) <;> rfl) ?_
  rw [show 213 + 38 * n + 1 = 214 + 38 * n by omega]
  refine V_istore_n dX7_setTurns_38 (by decide) (by dsimp only [List.set] <;> rfl) ?_
  refine V_iload_n dX7_setTurns_39 rfl ?_
  refine V_iload_n dX7_setTurns_40 rfl ?_
  by_cases he : C 106 (214 + 38 * n) = t
  · refine V_icmp_ne dX7_setTurns_41 (fun z => absurd z (fun z => z he)) (fun _ => ?_)
    refine V_bipush (v := (-5)) dX7_setTurns_44 (by decide) ?_
    refine V_iret dX7_setTurns_46 rfl rfl rfl ?_
    exact Rw_i (by rw [if_neg (fun z => z ht), if_pos he]) (by rw [if_neg (fun z => z ht), if_pos he])
  refine V_icmp_ne dX7_setTurns_41 (fun _ => ?_) (fun z => absurd z he)
  refine V_aload_n dX7_setTurns_47 rfl ?_
  refine V_callVu dX7_setTurns_48 kX7_53 ykX7_save (by decide) rfl rfl (tX7_save hst h0) rfl (Nat.le_of_ble_eq_true rfl) ⟨by decide, by decide, by decide, by decide⟩ ?_
  refine V_aload_n dX7_setTurns_51 rfl ?_
  refine V_bget dX7_setTurns_52 fX7_7 (by decide) rfl (by (try simp only [mset_s, mset_n, pk_us, pk_un, ne_eq, Nat.reduceEqDiff, Nat.reduceAdd, not_false_eq_true, not_true_eq_false]) <;> rfl) ?_
  refine V_sipush (v := 213) dX7_setTurns_55 (by decide) ?_
  refine V_bipush (v := 38) dX7_setTurns_58 (by decide) ?_
  refine V_iload_n dX7_setTurns_60 rfl ?_
  refine V_imul dX7_setTurns_61 ?_
  refine V_iadd dX7_setTurns_62 ?_
  refine V_iconst (v := 1) dX7_setTurns_63 (by decide) ?_
  refine V_iadd dX7_setTurns_64 ?_
  refine V_iload_n dX7_setTurns_65 rfl ?_
  refine V_biast dX7_setTurns_66 (by decide) (fun _ => rfl) (by repeat (first | with_reducible rfl | with_reducible exact nlit | with_reducible apply nadd | with_reducible apply nmul | with_reducible apply nsub | with_reducible assumption | omega)) (by omega) (by first | decide | omega) ?_
  refine V_iload_n dX7_setTurns_67 rfl ?_
  refine V_iret dX7_setTurns_68 rfl rfl rfl ?_
  rw [show 213 + 38 * n + 1 = 214 + 38 * n by omega, mSave_z]
  exact Rw_i (by rw [if_neg (fun z => z ht), if_neg he]) (by rw [if_neg (fun z => z ht), if_neg he])
set_option maxHeartbeats 4000000 in
def zDL (z : Nat → Int32) (lc n : Nat) : Nat → Int32 := va_cpy (upd z 33 (nI (lc - 1))) (upd z 33 (nI (lc - 1))) (213 + 38 * n + 38) (213 + 38 * n) (190 - 38 * n)
theorem tX7_dropLoop_o {lc : Nat} (x : Int32) (h33 : C 106 33 = nI lc) (hlc : lc ≤ 6) (hx : ¬ isIx x lc) : Ct G l yX7_dropLoop cX7_dropLoop 3 (some .int) 2 0 0 sz [.ref (a + 105), .int x] (B G a C) (Rw G a (.int (-1)) C) := by
  refine Ct.of (own := RX7) (mn := "dropLoop") (L0 := [some (.ref (a + 105)), some (.int x), none]) (by decide +kernel) rfl rfl rfl (Nat.le_of_ble_eq_true rfl) rfl ?_
  refine V_aload_n dX7_dropLoop_0 rfl ?_
  refine V_iload_n dX7_dropLoop_1 rfl ?_
  refine V_callVw dX7_dropLoop_2 kX7_92 ykX7_isLoop (by decide) rfl rfl (tX7_isLoop _ h33 (by omega)) rfl (Nat.le_of_ble_eq_true rfl) ⟨by decide, by decide, by decide, by decide⟩ ?_
  refine V_if_ne dX7_dropLoop_5 (fun z => absurd z (fun z => z (bI_f hx))) (fun _ => ?_)
  refine V_iconst (v := (-1)) dX7_dropLoop_8 (by decide) ?_
  refine V_iret dX7_dropLoop_9 rfl rfl rfl ?_
  exact Rw_i rfl rfl
set_option maxHeartbeats 4000000 in
theorem tX7_dropLoop {st lc n : Nat} (hst : st ≤ 4) (h0 : C 105 0 = nI st) (h33 : C 106 33 = nI lc) (hlc : lc ≤ 6) (hn : n < lc) : Ct G l yX7_dropLoop cX7_dropLoop 3 (some .int) 2 0 0 sz [.ref (a + 105), .int (nI n)] (B G a C) (Rw G a (.int (nI (lc - 1))) (mset (mSave C st) 106 (zDL (C 106) lc n))) := by
  refine Ct.of (own := RX7) (mn := "dropLoop") (L0 := [some (.ref (a + 105)), some (.int (nI n)), none]) (by decide +kernel) rfl rfl rfl (Nat.le_of_ble_eq_true rfl) rfl ?_
  refine V_aload_n dX7_dropLoop_0 rfl ?_
  refine V_iload_n dX7_dropLoop_1 rfl ?_
  refine V_callVw dX7_dropLoop_2 kX7_92 ykX7_isLoop (by decide) rfl rfl (tX7_isLoop _ h33 (by omega)) rfl (Nat.le_of_ble_eq_true rfl) ⟨by decide, by decide, by decide, by decide⟩ ?_
  refine V_if_ne dX7_dropLoop_5 (fun _ => ?_) (fun z => absurd z ((bI_ne0.mpr (isIx_nI hn (by omega)))))
  refine V_aload_n dX7_dropLoop_10 rfl ?_
  refine V_callVu dX7_dropLoop_11 kX7_53 ykX7_save (by decide) rfl rfl (tX7_save hst h0) rfl (Nat.le_of_ble_eq_true rfl) ⟨by decide, by decide, by decide, by decide⟩ ?_
  refine V_aload_n dX7_dropLoop_14 rfl ?_
  refine V_bget dX7_dropLoop_15 fX7_7 (by decide) rfl (by (try simp only [mset_s, mset_n, pk_us, pk_un, ne_eq, Nat.reduceEqDiff, Nat.reduceAdd, not_false_eq_true, not_true_eq_false]) <;> rfl) ?_
  refine V_bipush (v := 33) dX7_dropLoop_18 (by decide) ?_
  refine V_dup2 dX7_dropLoop_20 rfl rfl ?_
  refine V_biald dX7_dropLoop_21 (by decide) rfl (by repeat (first | with_reducible rfl | with_reducible exact nlit | with_reducible apply nadd | with_reducible apply nmul | with_reducible apply nsub | with_reducible assumption | omega)) (by omega) (by first | decide | omega) (by (try simp only [mset_s, mset_n, pk_us, pk_un, ne_eq, Nat.reduceEqDiff, Nat.reduceAdd, not_false_eq_true, not_true_eq_false]) <;> rfl) ?_
  rw [mSave_z, h33]
  refine V_iconst (v := 1) dX7_dropLoop_22 (by decide) ?_
  refine V_isub dX7_dropLoop_23 ?_
  rw [show nI lc - 1 = nI (lc - 1) from nsub rfl nlit (by omega)]
  refine V_biast dX7_dropLoop_24 (by decide) (fun _ => rfl) (by repeat (first | with_reducible rfl | with_reducible exact nlit | with_reducible apply nadd | with_reducible apply nmul | with_reducible apply nsub | with_reducible assumption | omega)) (by omega) (by first | decide | omega) ?_
  refine V_sipush (v := 213) dX7_dropLoop_25 (by decide) ?_
  refine V_bipush (v := 38) dX7_dropLoop_28 (by decide) ?_
  refine V_iload_n dX7_dropLoop_30 rfl ?_
  refine V_imul dX7_dropLoop_31 ?_
  refine V_iadd dX7_dropLoop_32 ?_
  simp only [mSave_z]
  rw [show (213 : Int32) + 38 * nI n = nI (213 + 38 * n) from nadd nlit (nmul nlit rfl)]
  have key : ∀ (m k : Nat), k + m = 190 - 38 * n → V G l RX7 "dropLoop" cX7_dropLoop 3 (some .int) (rmd 2 0 0) E0 (Qm G (Rw G a (.int (nI (lc - 1))) (mset (mSave C st) 106 (zDL (C 106) lc n))) sz 0 0) sz 0 0 34 [some (.ref (a + 105)), some (.int (nI n)), some (.int (nI (213 + 38 * n + k)))] [] (B G a (mset (mSave C st) 106 (va_cpy (upd (C 106) 33 (nI (lc - 1))) (upd (C 106) 33 (nI (lc - 1))) (213 + 38 * n + 38) (213 + 38 * n) k))) := by
    intro m
    induction m with
    | zero =>
      intro k hk
      obtain rfl : k = 190 - 38 * n := by omega
      refine V_iload_n dX7_dropLoop_34 rfl ?_
      refine V_sipush (v := 403) dX7_dropLoop_35 (by decide) ?_
      refine V_icmp_ge dX7_dropLoop_38 (fun _ => ?_) (fun z => absurd ((cle (by repeat (first | with_reducible rfl | with_reducible exact nlit | with_reducible apply nadd | with_reducible apply nmul | with_reducible apply nsub | with_reducible assumption | omega)) (by repeat (first | with_reducible rfl | with_reducible exact nlit | with_reducible apply nadd | with_reducible apply nmul | with_reducible apply nsub | with_reducible assumption | omega)) (by omega) (by omega)).mpr (by omega)) z)
      refine V_aload_n dX7_dropLoop_62 rfl ?_
      refine V_bget dX7_dropLoop_63 fX7_7 (by decide) rfl (by (try simp only [mset_s, mset_n, pk_us, pk_un, ne_eq, Nat.reduceEqDiff, Nat.reduceAdd, not_false_eq_true, not_true_eq_false]) <;> rfl) ?_
      refine V_bipush (v := 33) dX7_dropLoop_66 (by decide) ?_
      refine V_biald dX7_dropLoop_68 (by decide) rfl (by repeat (first | with_reducible rfl | with_reducible exact nlit | with_reducible apply nadd | with_reducible apply nmul | with_reducible apply nsub | with_reducible assumption | omega)) (by omega) (by first | decide | omega) (by (try simp only [mset_s, mset_n, pk_us, pk_un, ne_eq, Nat.reduceEqDiff, Nat.reduceAdd, not_false_eq_true, not_true_eq_false]) <;> rfl) ?_
      rw [cpy_n (by omega), pk_us]
      refine V_iret dX7_dropLoop_69 rfl rfl rfl ?_
      exact Rw_i rfl rfl
    | succ m ih =>
      intro k hk
      refine V_iload_n dX7_dropLoop_34 rfl ?_
      refine V_sipush (v := 403) dX7_dropLoop_35 (by decide) ?_
      refine V_icmp_ge dX7_dropLoop_38 (fun z => absurd z (fun z => absurd ((cle (by repeat (first | with_reducible rfl | with_reducible exact nlit | with_reducible apply nadd | with_reducible apply nmul | with_reducible apply nsub | with_reducible assumption | omega)) (by repeat (first | with_reducible rfl | with_reducible exact nlit | with_reducible apply nadd | with_reducible apply nmul | with_reducible apply nsub | with_reducible assumption | omega)) (by omega) (by omega)).mp z) (by omega))) (fun _ => ?_)
      refine V_aload_n dX7_dropLoop_41 rfl ?_
      refine V_bget dX7_dropLoop_42 fX7_7 (by decide) rfl (by (try simp only [mset_s, mset_n, pk_us, pk_un, ne_eq, Nat.reduceEqDiff, Nat.reduceAdd, not_false_eq_true, not_true_eq_false]) <;> rfl) ?_
      refine V_iload_n dX7_dropLoop_45 rfl ?_
      refine V_aload_n dX7_dropLoop_46 rfl ?_
      refine V_bget dX7_dropLoop_47 fX7_7 (by decide) rfl (by (try simp only [mset_s, mset_n, pk_us, pk_un, ne_eq, Nat.reduceEqDiff, Nat.reduceAdd, not_false_eq_true, not_true_eq_false]) <;> rfl) ?_
      refine V_iload_n dX7_dropLoop_50 rfl ?_
      refine V_bipush (v := 38) dX7_dropLoop_51 (by decide) ?_
      refine V_iadd dX7_dropLoop_53 ?_
      refine V_biald dX7_dropLoop_54 (by decide) rfl (by repeat (first | with_reducible rfl | with_reducible exact nlit | with_reducible apply nadd | with_reducible apply nmul | with_reducible apply nsub | with_reducible assumption | omega)) (by omega) (by first | decide | omega) (by (try simp only [mset_s, mset_n, pk_us, pk_un, ne_eq, Nat.reduceEqDiff, Nat.reduceAdd, not_false_eq_true, not_true_eq_false]) <;> rfl) ?_
      rw [cpy_r (by omega), show 213 + 38 * n + k + 38 = 213 + 38 * n + 38 + k by omega]
      refine V_biast dX7_dropLoop_55 (by decide) (fun _ => rfl) (by repeat (first | with_reducible rfl | with_reducible exact nlit | with_reducible apply nadd | with_reducible apply nmul | with_reducible apply nsub | with_reducible assumption | omega)) (by omega) (by first | decide | omega) ?_
      refine V_iinc dX7_dropLoop_56 rfl (ninc _) (by decide) (by dsimp only [List.set] <;> rfl) ?_
      refine V_goto dX7_dropLoop_59 ?_
      simp only [mset_s, mset_ss, cpy_s]
      exact ih (k + 1) (by omega)
  refine V_istore_n dX7_dropLoop_33 (by decide) (by dsimp only [List.set] <;> rfl) ?_
  have k0 := key (190 - 38 * n) 0 (by omega)
  rw [cpy_0] at k0
  exact k0
end MODEL
