/-! TryLoopsModel: its small methods. -/
abbrev isIx (x : Int32) (n : Nat) : Prop := 0 ≤ x.toInt ∧ x.toInt < (n : Int)
def gN (v : Int32) : Int32 := if v = 0 ∨ v = 3 ∨ v = 4 then 29 else 99
abbrev inR (v x : Int32) : Prop := 0 ≤ x ∧ x ≤ gN v
theorem inIx {x : Int32} {n : Nat} (hn : n < 2147483648) : bI (0 ≤ x ∧ x ≤ nI n - 1) = bI (isIx x n) := by
  have e : (0 ≤ x ∧ x ≤ nI n - 1) ↔ isIx x n := by
    unfold isIx
    cases n with
    | zero =>
      rw [i_le, i_le]
      have : (nI 0 - 1).toInt = -1 := by decide
      rw [this]
      have : (0 : Int32).toInt = 0 := rfl
      omega
    | succ n =>
      rw [nI_pred, i_le, i_le, nI_toInt (by omega)]
      have : (0 : Int32).toInt = 0 := rfl
      omega
  unfold bI
  by_cases h : isIx x n
  · rw [if_pos h, if_pos (e.mpr h)]
  · rw [if_neg h, if_neg (fun z => h (e.mp z))]
theorem cpy_0 {f g : Nat → Int32} {u v : Nat} : va_cpy f g u v 0 = g := by
  funext j; unfold va_cpy; rw [if_neg (by omega)]
theorem cpy_s {f g : Nat → Int32} {u v k : Nat} : upd (va_cpy f g u v k) (v + k) (f (u + k)) = va_cpy f g u v (k + 1) := by
  funext j
  unfold upd va_cpy
  by_cases h : j = v + k
  · subst h
    rw [if_pos rfl, if_pos (by omega)]
    congr 1
    omega
  · rw [if_neg h]
    by_cases h2 : v ≤ j ∧ j < v + k
    · rw [if_pos h2, if_pos (by omega)]
    · rw [if_neg h2, if_neg (by omega)]
section MODEL
variable {G : GT} {l : Launch} {sz a : Nat} {C : CT}
set_option maxHeartbeats 4000000 in
theorem tX7_in (v lo hi : Int32) {h : Hp} : Ct G l yX7_in cX7_in 3 (some .boolean) 0 0 0 sz [.int v, .int lo, .int hi] h (Rd (.int (bI (lo ≤ v ∧ v ≤ hi))) h) := by
  refine Ct.of (own := RX7) (mn := "in") (L0 := [some (.int v), some (.int lo), some (.int hi)]) (by decide +kernel) rfl rfl rfl (Nat.le_of_ble_eq_true rfl) rfl ?_
  refine V_iload_n dX7_in_0 rfl ?_
  refine V_iload_n dX7_in_1 rfl ?_
  refine V_icmp_lt dX7_in_2 (fun c2 => ?_) (fun c2 => ?_)
  · refine V_iconst (v := 0) dX7_in_14 (by decide) ?_
    refine V_zret dX7_in_15 rfl (by first | rfl | exact bI_nar) rfl rfl ?_
    exact Rd_i (bI_f (fun z => by rw [i_le, i_le] at z; rw [i_lt] at c2; omega)).symm
  · refine V_iload_n dX7_in_5 rfl ?_
    refine V_iload_n dX7_in_6 rfl ?_
    refine V_icmp_gt dX7_in_7 (fun c7 => ?_) (fun c7 => ?_)
    · refine V_iconst (v := 0) dX7_in_14 (by decide) ?_
      refine V_zret dX7_in_15 rfl (by first | rfl | exact bI_nar) rfl rfl ?_
      exact Rd_i (bI_f (fun z => by rw [i_le, i_le] at z; rw [i_lt] at c7; omega)).symm
    · refine V_iconst (v := 1) dX7_in_10 (by decide) ?_
      refine V_goto dX7_in_11 ?_
      refine V_zret dX7_in_15 rfl (by first | rfl | exact bI_nar) rfl rfl ?_
      exact Rd_i (bI_t (by rw [i_le, i_le]; rw [i_lt] at c2 c7; omega)).symm
set_option maxHeartbeats 4000000 in
theorem tX7_greatest (v : Int32) {h : Hp} : Ct G l yX7_greatest cX7_greatest 1 (some .int) 0 0 0 sz [.int v] h (Rd (.int (gN v)) h) := by
  refine Ct.of (own := RX7) (mn := "greatest") (L0 := [some (.int v)]) (by decide +kernel) rfl rfl rfl (Nat.le_of_ble_eq_true rfl) rfl ?_
  refine V_iload_n dX7_greatest_0 rfl ?_
  refine V_if_eq dX7_greatest_1 (fun c1 => ?_) (fun c1 => ?_)
  · refine V_bipush (v := 29) dX7_greatest_14 (by decide) ?_
    refine V_goto dX7_greatest_16 ?_
    refine V_iret dX7_greatest_21 rfl rfl rfl ?_
    exact Rd_i (by unfold gN; rw [if_pos (Or.inl c1)])
  · refine V_iload_n dX7_greatest_4 rfl ?_
    refine V_iconst (v := 3) dX7_greatest_5 (by decide) ?_
    refine V_icmp_eq dX7_greatest_6 (fun c6 => ?_) (fun c6 => ?_)
    · refine V_bipush (v := 29) dX7_greatest_14 (by decide) ?_
      refine V_goto dX7_greatest_16 ?_
      refine V_iret dX7_greatest_21 rfl rfl rfl ?_
      exact Rd_i (by unfold gN; rw [if_pos (Or.inr (Or.inl c6))])
    · refine V_iload_n dX7_greatest_9 rfl ?_
      refine V_iconst (v := 4) dX7_greatest_10 (by decide) ?_
      refine V_icmp_ne dX7_greatest_11 (fun c11 => ?_) (fun c11 => ?_)
      · refine V_bipush (v := 99) dX7_greatest_19 (by decide) ?_
        refine V_iret dX7_greatest_21 rfl rfl rfl ?_
        exact Rd_i (by unfold gN; rw [if_neg (by intro z; rcases z with z | z | z <;> contradiction)])
      · refine V_bipush (v := 29) dX7_greatest_14 (by decide) ?_
        refine V_goto dX7_greatest_16 ?_
        refine V_iret dX7_greatest_21 rfl rfl rfl ?_
        exact Rd_i (by unfold gN; rw [if_pos (Or.inr (Or.inr c11))])
set_option maxHeartbeats 4000000 in
theorem tX7_isTry {tc : Nat} (x : Int32) (h31 : C 106 31 = nI tc) (htc : tc < 1000) : Ct G l yX7_isTry cX7_isTry 2 (some .boolean) 1 0 0 sz [.ref (a + 105), .int x] (B G a C) (Rw G a (.int (bI (isIx x tc))) C) := by
  refine Ct.of (own := RX7) (mn := "isTry") (L0 := [some (.ref (a + 105)), some (.int x)]) (by decide +kernel) rfl rfl rfl (Nat.le_of_ble_eq_true rfl) rfl ?_
  refine V_iload_n dX7_isTry_0 rfl ?_
  refine V_iconst (v := 0) dX7_isTry_1 (by decide) ?_
  refine V_aload_n dX7_isTry_2 rfl ?_
  refine V_bget dX7_isTry_3 fX7_7 (by decide) rfl (by (try simp only [mset_s, mset_n, pk_us, pk_un, ne_eq, Nat.reduceEqDiff, Nat.reduceAdd, not_false_eq_true, not_true_eq_false]) <;> rfl) ?_
  refine V_bipush (v := 31) dX7_isTry_6 (by decide) ?_
  refine V_biald dX7_isTry_8 (by decide) rfl (by repeat (first | with_reducible rfl | with_reducible exact nlit | with_reducible apply nadd | with_reducible apply nmul | with_reducible apply nsub | with_reducible assumption | omega)) (by omega) (by first | decide | omega) (by (try simp only [mset_s, mset_n, pk_us, pk_un, ne_eq, Nat.reduceEqDiff, Nat.reduceAdd, not_false_eq_true, not_true_eq_false]) <;> rfl) ?_
  rw [h31]
  refine V_iconst (v := 1) dX7_isTry_9 (by decide) ?_
  refine V_isub dX7_isTry_10 ?_
  refine V_callSw dX7_isTry_11 kX7_37 ykX7_in (tX7_in _ _ _) rfl (Nat.le_of_ble_eq_true rfl) ⟨by decide, by decide, by decide, by decide⟩ ?_
  refine V_zret dX7_isTry_14 rfl (by first | rfl | exact bI_nar) rfl rfl ?_
  exact Rw_i (inIx (by omega)) rfl
set_option maxHeartbeats 4000000 in
theorem tX7_isLoop {lc : Nat} (x : Int32) (h33 : C 106 33 = nI lc) (hlc : lc < 1000) : Ct G l yX7_isLoop cX7_isLoop 2 (some .boolean) 1 0 0 sz [.ref (a + 105), .int x] (B G a C) (Rw G a (.int (bI (isIx x lc))) C) := by
  refine Ct.of (own := RX7) (mn := "isLoop") (L0 := [some (.ref (a + 105)), some (.int x)]) (by decide +kernel) rfl rfl rfl (Nat.le_of_ble_eq_true rfl) rfl ?_
  refine V_iload_n dX7_isLoop_0 rfl ?_
  refine V_iconst (v := 0) dX7_isLoop_1 (by decide) ?_
  refine V_aload_n dX7_isLoop_2 rfl ?_
  refine V_bget dX7_isLoop_3 fX7_7 (by decide) rfl (by (try simp only [mset_s, mset_n, pk_us, pk_un, ne_eq, Nat.reduceEqDiff, Nat.reduceAdd, not_false_eq_true, not_true_eq_false]) <;> rfl) ?_
  refine V_bipush (v := 33) dX7_isLoop_6 (by decide) ?_
  refine V_biald dX7_isLoop_8 (by decide) rfl (by repeat (first | with_reducible rfl | with_reducible exact nlit | with_reducible apply nadd | with_reducible apply nmul | with_reducible apply nsub | with_reducible assumption | omega)) (by omega) (by first | decide | omega) (by (try simp only [mset_s, mset_n, pk_us, pk_un, ne_eq, Nat.reduceEqDiff, Nat.reduceAdd, not_false_eq_true, not_true_eq_false]) <;> rfl) ?_
  rw [h33]
  refine V_iconst (v := 1) dX7_isLoop_9 (by decide) ?_
  refine V_isub dX7_isLoop_10 ?_
  refine V_callSw dX7_isLoop_11 kX7_37 ykX7_in (tX7_in _ _ _) rfl (Nat.le_of_ble_eq_true rfl) ⟨by decide, by decide, by decide, by decide⟩ ?_
  refine V_zret dX7_isLoop_14 rfl (by first | rfl | exact bI_nar) rfl rfl ?_
  exact Rw_i (inIx (by omega)) rfl
set_option maxHeartbeats 4000000 in
theorem tX7_sizeOf {n : Nat} (hn : n < 16) : Ct G l yX7_sizeOf cX7_sizeOf 2 (some .int) 0 0 0 sz [.ref (a + 105), .int (nI n)] (B G a C) (Rw G a (.int (C 106 (38 + 25 * n))) C) := by
  refine Ct.of (own := RX7) (mn := "sizeOf") (L0 := [some (.ref (a + 105)), some (.int (nI n))]) (by decide +kernel) rfl rfl rfl (Nat.le_of_ble_eq_true rfl) rfl ?_
  refine V_aload_n dX7_sizeOf_0 rfl ?_
  refine V_bget dX7_sizeOf_1 fX7_7 (by decide) rfl (by (try simp only [mset_s, mset_n, pk_us, pk_un, ne_eq, Nat.reduceEqDiff, Nat.reduceAdd, not_false_eq_true, not_true_eq_false]) <;> rfl) ?_
  refine V_bipush (v := 38) dX7_sizeOf_4 (by decide) ?_
  refine V_bipush (v := 25) dX7_sizeOf_6 (by decide) ?_
  refine V_iload_n dX7_sizeOf_8 rfl ?_
  refine V_imul dX7_sizeOf_9 ?_
  refine V_iadd dX7_sizeOf_10 ?_
  refine V_biald dX7_sizeOf_11 (by decide) rfl (by repeat (first | with_reducible rfl | with_reducible exact nlit | with_reducible apply nadd | with_reducible apply nmul | with_reducible apply nsub | with_reducible assumption | omega)) (by omega) (by first | decide | omega) (by (try simp only [mset_s, mset_n, pk_us, pk_un, ne_eq, Nat.reduceEqDiff, Nat.reduceAdd, not_false_eq_true, not_true_eq_false]) <;> rfl) ?_
  refine V_iret dX7_sizeOf_12 rfl rfl rfl ?_
  exact Rw_i rfl rfl
set_option maxHeartbeats 4000000 in
theorem tX7_verbOf {n k : Nat} (hn : n < 15) (hk : k < 13) : Ct G l yX7_verbOf cX7_verbOf 3 (some .int) 0 0 0 sz [.ref (a + 105), .int (nI n), .int (nI k)] (B G a C) (Rw G a (.int (C 106 (38 + 25 * n + 1 + 2 * k))) C) := by
  refine Ct.of (own := RX7) (mn := "verbOf") (L0 := [some (.ref (a + 105)), some (.int (nI n)), some (.int (nI k))]) (by decide +kernel) rfl rfl rfl (Nat.le_of_ble_eq_true rfl) rfl ?_
  refine V_aload_n dX7_verbOf_0 rfl ?_
  refine V_bget dX7_verbOf_1 fX7_7 (by decide) rfl (by (try simp only [mset_s, mset_n, pk_us, pk_un, ne_eq, Nat.reduceEqDiff, Nat.reduceAdd, not_false_eq_true, not_true_eq_false]) <;> rfl) ?_
  refine V_bipush (v := 38) dX7_verbOf_4 (by decide) ?_
  refine V_bipush (v := 25) dX7_verbOf_6 (by decide) ?_
  refine V_iload_n dX7_verbOf_8 rfl ?_
  refine V_imul dX7_verbOf_9 ?_
  refine V_iadd dX7_verbOf_10 ?_
  refine V_iconst (v := 1) dX7_verbOf_11 (by decide) ?_
  refine V_iadd dX7_verbOf_12 ?_
  refine V_iconst (v := 2) dX7_verbOf_13 (by decide) ?_
  refine V_iload_n dX7_verbOf_14 rfl ?_
  refine V_imul dX7_verbOf_15 ?_
  refine V_iadd dX7_verbOf_16 ?_
  refine V_biald dX7_verbOf_17 (by decide) rfl (by repeat (first | with_reducible rfl | with_reducible exact nlit | with_reducible apply nadd | with_reducible apply nmul | with_reducible apply nsub | with_reducible assumption | omega)) (by omega) (by first | decide | omega) (by (try simp only [mset_s, mset_n, pk_us, pk_un, ne_eq, Nat.reduceEqDiff, Nat.reduceAdd, not_false_eq_true, not_true_eq_false]) <;> rfl) ?_
  refine V_iret dX7_verbOf_18 rfl rfl rfl ?_
  exact Rw_i rfl rfl
set_option maxHeartbeats 4000000 in
theorem tX7_numberOf {n k : Nat} (hn : n < 15) (hk : k < 13) : Ct G l yX7_numberOf cX7_numberOf 3 (some .int) 0 0 0 sz [.ref (a + 105), .int (nI n), .int (nI k)] (B G a C) (Rw G a (.int (C 106 (38 + 25 * n + 2 + 2 * k))) C) := by
  refine Ct.of (own := RX7) (mn := "numberOf") (L0 := [some (.ref (a + 105)), some (.int (nI n)), some (.int (nI k))]) (by decide +kernel) rfl rfl rfl (Nat.le_of_ble_eq_true rfl) rfl ?_
  refine V_aload_n dX7_numberOf_0 rfl ?_
  refine V_bget dX7_numberOf_1 fX7_7 (by decide) rfl (by (try simp only [mset_s, mset_n, pk_us, pk_un, ne_eq, Nat.reduceEqDiff, Nat.reduceAdd, not_false_eq_true, not_true_eq_false]) <;> rfl) ?_
  refine V_bipush (v := 38) dX7_numberOf_4 (by decide) ?_
  refine V_bipush (v := 25) dX7_numberOf_6 (by decide) ?_
  refine V_iload_n dX7_numberOf_8 rfl ?_
  refine V_imul dX7_numberOf_9 ?_
  refine V_iadd dX7_numberOf_10 ?_
  refine V_iconst (v := 2) dX7_numberOf_11 (by decide) ?_
  refine V_iadd dX7_numberOf_12 ?_
  refine V_iconst (v := 2) dX7_numberOf_13 (by decide) ?_
  refine V_iload_n dX7_numberOf_14 rfl ?_
  refine V_imul dX7_numberOf_15 ?_
  refine V_iadd dX7_numberOf_16 ?_
  refine V_biald dX7_numberOf_17 (by decide) rfl (by repeat (first | with_reducible rfl | with_reducible exact nlit | with_reducible apply nadd | with_reducible apply nmul | with_reducible apply nsub | with_reducible assumption | omega)) (by omega) (by first | decide | omega) (by (try simp only [mset_s, mset_n, pk_us, pk_un, ne_eq, Nat.reduceEqDiff, Nat.reduceAdd, not_false_eq_true, not_true_eq_false]) <;> rfl) ?_
  refine V_iret dX7_numberOf_18 rfl rfl rfl ?_
  exact Rw_i rfl rfl
set_option maxHeartbeats 4000000 in
theorem tX7_copyState {p q u v np nq : Nat} (hp : p < 115) (hq : q < 115) (kp : ∀ f, kE G a p f = iA G np f) (kq : ∀ f, kE G a q f = iA G nq f) (hpq : p ≠ q) (hu : u + 441 ≤ np) (hv : v + 441 ≤ nq) (hnp : np < 3000) (hnq : nq < 3000) : Ct G l yX7_copyState cX7_copyState 5 none 0 0 0 sz [.ref (a + p), .int (nI u), .ref (a + q), .int (nI v)] (B G a C) (Rwu G a (mset C q (va_cpy (C p) (C q) u v 441))) := by
  refine Ct.of (own := RX7) (mn := "copyState") (L0 := [some (.ref (a + p)), some (.int (nI u)), some (.ref (a + q)), some (.int (nI v)), none]) (by decide +kernel) rfl rfl rfl (Nat.le_of_ble_eq_true rfl) rfl ?_
  have key : ∀ (n k : Nat), k + n = 441 → V G l RX7 "copyState" cX7_copyState 5 none (rmd 0 0 0) E0 (Qm G (Rwu G a (mset C q (va_cpy (C p) (C q) u v 441))) sz 0 0) sz 0 0 3 [some (.ref (a + p)), some (.int (nI u)), some (.ref (a + q)), some (.int (nI v)), some (.int (nI k))] [] (B G a (mset C q (va_cpy (C p) (C q) u v k))) := by
    intro n
    induction n with
    | zero =>
      intro k hk
      obtain rfl : k = 441 := by omega
      refine V_iload dX7_copyState_3 rfl ?_
      refine V_sipush (v := 441) dX7_copyState_5 (by decide) ?_
      refine V_icmp_ge dX7_copyState_8 (fun _ => ?_) (fun z => absurd ((cle (by repeat (first | with_reducible rfl | with_reducible exact nlit | with_reducible apply nadd | with_reducible apply nmul | with_reducible apply nsub | with_reducible assumption | omega)) (by repeat (first | with_reducible rfl | with_reducible exact nlit | with_reducible apply nadd | with_reducible apply nmul | with_reducible apply nsub | with_reducible assumption | omega)) (by omega) (by omega)).mpr (by omega)) z)
      refine V_vret dX7_copyState_29 rfl rfl rfl ?_
      exact Rwu_i rfl
    | succ n ih =>
      intro k hk
      refine V_iload dX7_copyState_3 rfl ?_
      refine V_sipush (v := 441) dX7_copyState_5 (by decide) ?_
      refine V_icmp_ge dX7_copyState_8 (fun z => absurd z (fun z => absurd ((cle (by repeat (first | with_reducible rfl | with_reducible exact nlit | with_reducible apply nadd | with_reducible apply nmul | with_reducible apply nsub | with_reducible assumption | omega)) (by repeat (first | with_reducible rfl | with_reducible exact nlit | with_reducible apply nadd | with_reducible apply nmul | with_reducible apply nsub | with_reducible assumption | omega)) (by omega) (by omega)).mp z) (by omega))) (fun _ => ?_)
      refine V_aload_n dX7_copyState_11 rfl ?_
      refine V_iload_n dX7_copyState_12 rfl ?_
      refine V_iload dX7_copyState_13 rfl ?_
      refine V_iadd dX7_copyState_15 ?_
      refine V_aload_n dX7_copyState_16 rfl ?_
      refine V_iload_n dX7_copyState_17 rfl ?_
      refine V_iload dX7_copyState_18 rfl ?_
      refine V_iadd dX7_copyState_20 ?_
      refine V_biald dX7_copyState_21 hp (kp _) (by repeat (first | with_reducible rfl | with_reducible exact nlit | with_reducible apply nadd | with_reducible apply nmul | with_reducible apply nsub | with_reducible assumption | omega)) (by omega) (by first | decide | omega) (by (try simp only [mset_s, mset_n, pk_us, pk_un, ne_eq, Nat.reduceEqDiff, Nat.reduceAdd, not_false_eq_true, not_true_eq_false]) <;> rfl) ?_
      refine V_biast dX7_copyState_22 hq kq (by repeat (first | with_reducible rfl | with_reducible exact nlit | with_reducible apply nadd | with_reducible apply nmul | with_reducible apply nsub | with_reducible assumption | omega)) (by omega) (by first | decide | omega) ?_
      refine V_iinc dX7_copyState_23 rfl (ninc _) (by decide) (by dsimp only [List.set] <;> rfl) ?_
      refine V_goto dX7_copyState_26 ?_
      rw [mset_s, mset_ss, mset_n hpq, cpy_s]
      exact ih (k + 1) (by omega)
  refine V_iconst (v := 0) dX7_copyState_0 (by decide) ?_
  refine V_istore dX7_copyState_1 (by decide) (by dsimp only [List.set] <;> rfl) ?_
  have h0 := key 441 0 rfl
  rw [cpy_0, mset_eta] at h0
  exact h0
end MODEL
