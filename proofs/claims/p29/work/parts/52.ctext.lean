/-! Text: next, digitOf, take, readNumber. -/
/-- the text's place set to p -/
def aP (C : CT) (p : Nat) : CT := mset C 93 (upd (C 93) 1 (nI p))
abbrev chC (C : CT) (n p : Nat) : Int32 := chF (C 94) n p
theorem aP_0 {C : CT} {p : Nat} : aP C p 93 0 = C 93 0 := by unfold aP; rw [mset_s]; rfl
theorem aP_1 {C : CT} {p : Nat} : aP C p 93 1 = nI p := by unfold aP; rw [mset_s, pk_us]
theorem aP_n {C : CT} {p i : Nat} (h : i ≠ 93) : aP C p i = C i := by unfold aP; rw [mset_n h]
theorem aP_aP {C : CT} {p q : Nat} : aP (aP C p) q = aP C q := by unfold aP; rw [mset_s, mset_ss, uus]
theorem aP_id {C : CT} {p : Nat} (h : C 93 1 = nI p) : aP C p = C := by unfold aP; rw [← h, u_eta, mset_eta]
def chOK (C : CT) : Prop := ∀ j, narrow .char (.int (C 94 j)) = .int (C 94 j)
section CLS
variable {G : GT} {l : Launch} {sz a : Nat} {C : CT}
theorem tX5_next {n p : Nat} (hch : chOK C) (hn : C 93 0 = nI n) (hn60 : n ≤ 60) (hp : C 93 1 = nI p) (hp70 : p ≤ 70) : Ct G l yX5_next cX5_next 1 (some .char) 0 0 0 sz [.ref (a + 93)] (B G a C) (Rw G a (.int (chC C n p)) C) := by
  refine Ct.of (own := RX5) (mn := "next") (L0 := [some (.ref (a + 93))]) (by decide +kernel) rfl rfl rfl (Nat.le_of_ble_eq_true rfl) rfl ?_
  refine V_aload_n dX5_next_0 rfl ?_
  refine V_bget dX5_next_1 fX5_28 (by decide) rfl (by (try simp only [mset_s, mset_n, pk_us, pk_un, ne_eq, Nat.reduceEqDiff, Nat.reduceAdd, not_false_eq_true, not_true_eq_false]) <;> rfl) ?_
  rw [hp]
  refine V_if_lt dX5_next_4 (fun z => absurd z (fun z => absurd ((clt (by repeat (first | with_reducible rfl | with_reducible exact nlit | with_reducible apply nadd | with_reducible apply nmul | with_reducible apply nsub | with_reducible assumption | omega)) (by repeat (first | with_reducible rfl | with_reducible exact nlit | with_reducible apply nadd | with_reducible apply nmul | with_reducible apply nsub | with_reducible assumption | omega)) (by omega) (by omega)).mp z) (by omega))) (fun _ => ?_)
  refine V_aload_n dX5_next_7 rfl ?_
  refine V_bget dX5_next_8 fX5_28 (by decide) rfl (by (try simp only [mset_s, mset_n, pk_us, pk_un, ne_eq, Nat.reduceEqDiff, Nat.reduceAdd, not_false_eq_true, not_true_eq_false]) <;> rfl) ?_
  rw [hp]
  refine V_aload_n dX5_next_11 rfl ?_
  refine V_bget dX5_next_12 fX5_24 (by decide) rfl (by (try simp only [mset_s, mset_n, pk_us, pk_un, ne_eq, Nat.reduceEqDiff, Nat.reduceAdd, not_false_eq_true, not_true_eq_false]) <;> rfl) ?_
  rw [hn]
  by_cases h : p < n
  · refine V_icmp_ge dX5_next_15 (fun z => absurd z (fun z => absurd ((cle (by repeat (first | with_reducible rfl | with_reducible exact nlit | with_reducible apply nadd | with_reducible apply nmul | with_reducible apply nsub | with_reducible assumption | omega)) (by repeat (first | with_reducible rfl | with_reducible exact nlit | with_reducible apply nadd | with_reducible apply nmul | with_reducible apply nsub | with_reducible assumption | omega)) (by omega) (by omega)).mp z) (by omega))) (fun _ => ?_)
    refine V_aload_n dX5_next_18 rfl ?_
    refine V_bget dX5_next_19 fX5_28 (by decide) rfl (by (try simp only [mset_s, mset_n, pk_us, pk_un, ne_eq, Nat.reduceEqDiff, Nat.reduceAdd, not_false_eq_true, not_true_eq_false]) <;> rfl) ?_
    rw [hp]
    refine V_aload_n dX5_next_22 rfl ?_
    refine V_bget dX5_next_23 fX5_9 (by decide) rfl (by (try simp only [mset_s, mset_n, pk_us, pk_un, ne_eq, Nat.reduceEqDiff, Nat.reduceAdd, not_false_eq_true, not_true_eq_false]) <;> rfl) ?_
    refine V_alenc (v := nI 60) dX5_next_26 (B_at (j := 94) (by decide) rfl) rfl ?_
    refine V_icmp_ge dX5_next_27 (fun z => absurd z (fun z => absurd ((cle (by repeat (first | with_reducible rfl | with_reducible exact nlit | with_reducible apply nadd | with_reducible apply nmul | with_reducible apply nsub | with_reducible assumption | omega)) (by repeat (first | with_reducible rfl | with_reducible exact nlit | with_reducible apply nadd | with_reducible apply nmul | with_reducible apply nsub | with_reducible assumption | omega)) (by omega) (by omega)).mp z) (by omega))) (fun _ => ?_)
    refine V_aload_n dX5_next_30 rfl ?_
    refine V_bget dX5_next_31 fX5_9 (by decide) rfl (by (try simp only [mset_s, mset_n, pk_us, pk_un, ne_eq, Nat.reduceEqDiff, Nat.reduceAdd, not_false_eq_true, not_true_eq_false]) <;> rfl) ?_
    refine V_aload_n dX5_next_34 rfl ?_
    refine V_bget dX5_next_35 fX5_28 (by decide) rfl (by (try simp only [mset_s, mset_n, pk_us, pk_un, ne_eq, Nat.reduceEqDiff, Nat.reduceAdd, not_false_eq_true, not_true_eq_false]) <;> rfl) ?_
    rw [hp]
    refine V_bcald dX5_next_38 (by decide) rfl (by repeat (first | with_reducible rfl | with_reducible exact nlit | with_reducible apply nadd | with_reducible apply nmul | with_reducible apply nsub | with_reducible assumption | omega)) (by omega) (by first | decide | omega) (by (try simp only [mset_s, mset_n, pk_us, pk_un, ne_eq, Nat.reduceEqDiff, Nat.reduceAdd, not_false_eq_true, not_true_eq_false]) <;> rfl) ?_
    refine V_goto dX5_next_39 ?_
    refine V_zret dX5_next_43 rfl (hch p) rfl rfl ?_
    refine Rw_i ?_ rfl
    show _ = if p < n then C 94 p else 0
    rw [if_pos h]
  · refine V_icmp_ge dX5_next_15 (fun _ => ?_) (fun z => absurd ((cle (by repeat (first | with_reducible rfl | with_reducible exact nlit | with_reducible apply nadd | with_reducible apply nmul | with_reducible apply nsub | with_reducible assumption | omega)) (by repeat (first | with_reducible rfl | with_reducible exact nlit | with_reducible apply nadd | with_reducible apply nmul | with_reducible apply nsub | with_reducible assumption | omega)) (by omega) (by omega)).mpr (by omega)) z)
    refine V_iconst (v := 0) dX5_next_42 (by decide) ?_
    refine V_zret dX5_next_43 rfl rfl rfl rfl ?_
    refine Rw_i ?_ rfl
    show _ = if p < n then C 94 p else 0
    rw [if_neg h]
theorem tX5_digitOf (c : Int32) {h : Hp} : Ct G l yX5_digitOf cX5_digitOf 1 (some .int) 0 0 0 sz [.int c] h (Rd (.int (if isD c then c - 48 else -1)) h) := by
  refine Ct.of (own := RX5) (mn := "digitOf") (L0 := [some (.int c)]) (by decide +kernel) rfl rfl rfl (Nat.le_of_ble_eq_true rfl) rfl ?_
  refine V_iload_n dX5_digitOf_0 rfl ?_
  refine V_bipush (v := 48) dX5_digitOf_1 (by decide) ?_
  refine V_icmp_lt dX5_digitOf_3 (fun c3 => ?_) (fun c3 => ?_)
  · refine V_iconst (v := (-1)) dX5_digitOf_19 (by decide) ?_
    refine V_iret dX5_digitOf_20 rfl rfl rfl ?_
    exact Rd_i (by rw [if_neg (fun z => by have := z.1; rw [i_le] at this; rw [i_lt] at c3; omega)])
  · refine V_iload_n dX5_digitOf_6 rfl ?_
    refine V_bipush (v := 57) dX5_digitOf_7 (by decide) ?_
    refine V_icmp_gt dX5_digitOf_9 (fun c9 => ?_) (fun c9 => ?_)
    · refine V_iconst (v := (-1)) dX5_digitOf_19 (by decide) ?_
      refine V_iret dX5_digitOf_20 rfl rfl rfl ?_
      exact Rd_i (by rw [if_neg (fun z => by have := z.2; rw [i_le] at this; rw [i_lt] at c9; omega)])
    · refine V_iload_n dX5_digitOf_12 rfl ?_
      refine V_bipush (v := 48) dX5_digitOf_13 (by decide) ?_
      refine V_isub dX5_digitOf_15 ?_
      refine V_goto dX5_digitOf_16 ?_
      refine V_iret dX5_digitOf_20 rfl rfl rfl ?_
      exact Rd_i (by rw [if_pos ⟨by rw [i_le]; rw [i_lt] at c3; omega, by rw [i_le]; rw [i_lt] at c9; omega⟩])
theorem tX5_take {n p : Nat} {c : Int32} (hch : chOK C) (hn : C 93 0 = nI n) (hn60 : n ≤ 60) (hp : C 93 1 = nI p) (hp70 : p ≤ 70) : Ct G l yX5_take cX5_take 2 (some .boolean) 1 0 0 sz [.ref (a + 93), .int c] (B G a C) (Rw G a (.int (bI (chC C n p = c))) (if chC C n p = c then aP C (p + 1) else C)) := by
  refine Ct.of (own := RX5) (mn := "take") (L0 := [some (.ref (a + 93)), some (.int c)]) (by decide +kernel) rfl rfl rfl (Nat.le_of_ble_eq_true rfl) rfl ?_
  refine V_aload_n dX5_take_0 rfl ?_
  refine V_callVw dX5_take_1 kX5_45 ykX5_next (by decide) rfl rfl (tX5_next hch hn hn60 hp hp70) rfl (Nat.le_of_ble_eq_true rfl) ⟨by decide, by decide, by decide, by decide⟩ ?_
  refine V_iload_n dX5_take_4 rfl ?_
  refine V_icmp_eq dX5_take_5 (fun c5 => ?_) (fun c5 => ?_)
  · refine V_aload_n dX5_take_10 rfl ?_
    refine V_dup dX5_take_11 rfl ?_
    refine V_bget dX5_take_12 fX5_28 (by decide) rfl (by (try simp only [mset_s, mset_n, pk_us, pk_un, ne_eq, Nat.reduceEqDiff, Nat.reduceAdd, not_false_eq_true, not_true_eq_false]) <;> rfl) ?_
    rw [hp]
    refine V_iconst (v := 1) dX5_take_15 (by decide) ?_
    refine V_iadd dX5_take_16 ?_
    refine V_bputi (i0 := 1) dX5_take_17 fX5_28 (by decide) rfl rfl rfl (Nat.le_of_ble_eq_true rfl) rfl ?_
    refine V_iconst (v := 1) dX5_take_20 (by decide) ?_
    refine V_zret dX5_take_21 rfl (by rfl) rfl rfl ?_
    exact Rw_i (bI_t c5).symm (by rw [if_pos c5]; unfold aP; rw [show nI p + 1 = nI (p + 1) from nI_1 p])
  · refine V_iconst (v := 0) dX5_take_8 (by decide) ?_
    refine V_zret dX5_take_9 rfl (by rfl) rfl rfl ?_
    exact Rw_i (bI_f c5).symm (by rw [if_neg c5])
def nuR (r : Option Nat × Nat) (lo : Nat) : Int32 := match r.1 with
  | some y => if lo ≤ y then nI y else -1
  | none => -1
set_option maxHeartbeats 4000000 in
theorem tX5_readNumber {n p lo hi : Nat} (hch : chOK C) (hn : C 93 0 = nI n) (hn60 : n ≤ 60) (hp : C 93 1 = nI p) (hp60 : p ≤ 60) (hlo : lo ≤ 2) (hhi : hi ≤ 99) : Ct G l yX5_readNumber cX5_readNumber 5 (some .int) 1 0 0 sz [.ref (a + 93), .int (nI lo), .int (nI hi)] (B G a C) (Rw G a (.int (nuR (pNum (chC C n) lo hi p) lo)) (aP C (pNum (chC C n) lo hi p).2)) := by
  refine Ct.of (own := RX5) (mn := "readNumber") (L0 := [some (.ref (a + 93)), some (.int (nI lo)), some (.int (nI hi)), none, none]) (by decide +kernel) rfl rfl rfl (Nat.le_of_ble_eq_true rfl) rfl ?_
  refine V_aload_n dX5_readNumber_0 rfl ?_
  refine V_callVw dX5_readNumber_1 kX5_45 ykX5_next (by decide) rfl rfl (tX5_next hch hn hn60 hp (by omega)) rfl (Nat.le_of_ble_eq_true rfl) ⟨by decide, by decide, by decide, by decide⟩ ?_
  refine V_callSw dX5_readNumber_4 kX5_49 ykX5_digitOf (tX5_digitOf _) rfl (Nat.le_of_ble_eq_true rfl) ⟨by decide, by decide, by decide, by decide⟩ ?_
  refine V_istore_n dX5_readNumber_7 (by decide) (by dsimp only [List.set] <;> rfl) rfl ?_
  refine V_iload_n dX5_readNumber_8 rfl ?_
  have bad : ∀ L, pNum (chC C n) lo hi p = (none, p) → V G l RX5 "readNumber" cX5_readNumber 5 (some .int) (rmd 1 0 0) E0 (Qm G (Rw G a (.int (nuR (pNum (chC C n) lo hi p) lo)) (aP C (pNum (chC C n) lo hi p).2)) sz 0 0) sz 0 0 20 L [] (B G a C) := by
    intro L h
    refine V_iconst (v := (-1)) dX5_readNumber_20 (by decide) ?_
    refine V_iret dX5_readNumber_21 rfl rfl rfl ?_
    rw [h]
    exact Rw_i rfl (aP_id hp).symm
  by_cases hd : isD (chC C n p)
  · obtain ⟨d1, d2⟩ := dgN_e hd
    rw [if_pos hd, d1]
    refine V_if_lt dX5_readNumber_9 (fun z => absurd z (fun z => absurd ((clt (by repeat (first | with_reducible rfl | with_reducible exact nlit | with_reducible apply nadd | with_reducible apply nmul | with_reducible apply nsub | with_reducible assumption | omega)) (by repeat (first | with_reducible rfl | with_reducible exact nlit | with_reducible apply nadd | with_reducible apply nmul | with_reducible apply nsub | with_reducible assumption | omega)) (by omega) (by omega)).mp z) (by omega))) (fun _ => ?_)
    refine V_iload_n dX5_readNumber_12 rfl ?_
    have go : (lo = 0 ∨ 0 < dgN (chC C n p)) → V G l RX5 "readNumber" cX5_readNumber 5 (some .int) (rmd 1 0 0) E0 (Qm G (Rw G a (.int (nuR (pNum (chC C n) lo hi p) lo)) (aP C (pNum (chC C n) lo hi p).2)) sz 0 0) sz 0 0 22 [some (.ref (a + 93)), some (.int (nI lo)), some (.int (nI hi)), some (.int (nI (dgN (chC C n p)))), none] [] (B G a C) := by
      intro hl
      have e1 : ∀ j, chC (aP C (p + 1)) n j = chC C n j := fun j => rfl
      refine V_aload_n dX5_readNumber_22 rfl ?_
      refine V_dup dX5_readNumber_23 rfl ?_
      refine V_bget dX5_readNumber_24 fX5_28 (by decide) rfl (by (try simp only [mset_s, mset_n, pk_us, pk_un, ne_eq, Nat.reduceEqDiff, Nat.reduceAdd, not_false_eq_true, not_true_eq_false]) <;> rfl) ?_
      rw [hp]
      refine V_iconst (v := 1) dX5_readNumber_27 (by decide) ?_
      refine V_iadd dX5_readNumber_28 ?_
      refine V_bputi (i0 := 1) dX5_readNumber_29 fX5_28 (by decide) rfl rfl rfl (Nat.le_of_ble_eq_true rfl) rfl ?_
      rw [show mset C 93 (upd (C 93) 1 (nI p + 1)) = aP C (p + 1) from by unfold aP; rw [show nI p + 1 = nI (p + 1) from nI_1 p]]
      refine V_aload_n dX5_readNumber_32 rfl ?_
      refine V_callVw dX5_readNumber_33 kX5_45 ykX5_next (by decide) rfl rfl (tX5_next (C := aP C (p + 1)) (p := p + 1) hch (by rw [aP_0]; exact hn) hn60 aP_1 (by omega)) rfl (Nat.le_of_ble_eq_true rfl) ⟨by decide, by decide, by decide, by decide⟩ ?_
      refine V_callSw dX5_readNumber_36 kX5_49 ykX5_digitOf (tX5_digitOf _) rfl (Nat.le_of_ble_eq_true rfl) ⟨by decide, by decide, by decide, by decide⟩ ?_
      refine V_istore dX5_readNumber_39 (by decide) (by dsimp only [List.set] <;> rfl) rfl ?_
      refine V_iload_n dX5_readNumber_41 rfl ?_
      rw [e1]
      have fin : ∀ (q y : Nat) (L4 : Option Value), y < 100 → pNum (chC C n) lo hi p = (some y, q) → V G l RX5 "readNumber" cX5_readNumber 5 (some .int) (rmd 1 0 0) E0 (Qm G (Rw G a (.int (nuR (pNum (chC C n) lo hi p) lo)) (aP C (pNum (chC C n) lo hi p).2)) sz 0 0) sz 0 0 79 [some (.ref (a + 93)), some (.int (nI lo)), some (.int (nI hi)), some (.int (nI y)), L4] [] (B G a (aP C q)) := by
        intro q y L4 hy h
        rw [h]
        refine V_iload_n dX5_readNumber_79 rfl ?_
        refine V_iload_n dX5_readNumber_80 rfl ?_
        by_cases hly : lo ≤ y
        · refine V_icmp_ge dX5_readNumber_81 (fun _ => ?_) (fun z => absurd ((cle (by repeat (first | with_reducible rfl | with_reducible exact nlit | with_reducible apply nadd | with_reducible apply nmul | with_reducible apply nsub | with_reducible assumption | omega)) (by repeat (first | with_reducible rfl | with_reducible exact nlit | with_reducible apply nadd | with_reducible apply nmul | with_reducible apply nsub | with_reducible assumption | omega)) (by omega) (by omega)).mpr (by omega)) z)
          refine V_iload_n dX5_readNumber_88 rfl ?_
          refine V_iret dX5_readNumber_89 rfl rfl rfl ?_
          exact Rw_i (by show _ = if lo ≤ y then nI y else -1; rw [if_pos hly]) rfl
        · refine V_icmp_ge dX5_readNumber_81 (fun z => absurd z (fun z => absurd ((cle (by repeat (first | with_reducible rfl | with_reducible exact nlit | with_reducible apply nadd | with_reducible apply nmul | with_reducible apply nsub | with_reducible assumption | omega)) (by repeat (first | with_reducible rfl | with_reducible exact nlit | with_reducible apply nadd | with_reducible apply nmul | with_reducible apply nsub | with_reducible assumption | omega)) (by omega) (by omega)).mp z) (by omega))) (fun _ => ?_)
          refine V_iconst (v := (-1)) dX5_readNumber_84 (by decide) ?_
          refine V_goto dX5_readNumber_85 ?_
          refine V_iret dX5_readNumber_89 rfl rfl rfl ?_
          exact Rw_i (by show _ = if lo ≤ y then nI y else -1; rw [if_neg hly]) rfl
      by_cases h0 : 0 < dgN (chC C n p)
      · refine V_if_le dX5_readNumber_42 (fun z => absurd z (fun z => absurd ((cle (by repeat (first | with_reducible rfl | with_reducible exact nlit | with_reducible apply nadd | with_reducible apply nmul | with_reducible apply nsub | with_reducible assumption | omega)) (by repeat (first | with_reducible rfl | with_reducible exact nlit | with_reducible apply nadd | with_reducible apply nmul | with_reducible apply nsub | with_reducible assumption | omega)) (by omega) (by omega)).mp z) (by omega))) (fun _ => ?_)
        refine V_iload dX5_readNumber_45 rfl ?_
        by_cases hd2 : isD (chC C n (p + 1))
        · obtain ⟨d3, d4⟩ := dgN_e hd2
          rw [if_pos hd2, d3]
          refine V_if_lt dX5_readNumber_47 (fun z => absurd z (fun z => absurd ((clt (by repeat (first | with_reducible rfl | with_reducible exact nlit | with_reducible apply nadd | with_reducible apply nmul | with_reducible apply nsub | with_reducible assumption | omega)) (by repeat (first | with_reducible rfl | with_reducible exact nlit | with_reducible apply nadd | with_reducible apply nmul | with_reducible apply nsub | with_reducible assumption | omega)) (by omega) (by omega)).mp z) (by omega))) (fun _ => ?_)
          refine V_bipush (v := 10) dX5_readNumber_50 (by decide) ?_
          refine V_iload_n dX5_readNumber_52 rfl ?_
          refine V_imul dX5_readNumber_53 ?_
          refine V_iload dX5_readNumber_54 rfl ?_
          refine V_iadd dX5_readNumber_56 ?_
          refine V_iload_n dX5_readNumber_57 rfl ?_
          rw [show (10 : Int32) * nI (dgN (chC C n p)) + nI (dgN (chC C n (p + 1))) = nI (10 * dgN (chC C n p) + dgN (chC C n (p + 1))) from nadd (nmul nlit rfl) rfl]
          by_cases hh : 10 * dgN (chC C n p) + dgN (chC C n (p + 1)) ≤ hi
          · refine V_icmp_gt dX5_readNumber_58 (fun z => absurd z (fun z => absurd ((clt (by repeat (first | with_reducible rfl | with_reducible exact nlit | with_reducible apply nadd | with_reducible apply nmul | with_reducible apply nsub | with_reducible assumption | omega)) (by repeat (first | with_reducible rfl | with_reducible exact nlit | with_reducible apply nadd | with_reducible apply nmul | with_reducible apply nsub | with_reducible assumption | omega)) (by omega) (by omega)).mp z) (by omega))) (fun _ => ?_)
            refine V_bipush (v := 10) dX5_readNumber_61 (by decide) ?_
            refine V_iload_n dX5_readNumber_63 rfl ?_
            refine V_imul dX5_readNumber_64 ?_
            refine V_iload dX5_readNumber_65 rfl ?_
            refine V_iadd dX5_readNumber_67 ?_
            rw [show (10 : Int32) * nI (dgN (chC C n p)) + nI (dgN (chC C n (p + 1))) = nI (10 * dgN (chC C n p) + dgN (chC C n (p + 1))) from nadd (nmul nlit rfl) rfl]
            refine V_istore_n dX5_readNumber_68 (by decide) (by dsimp only [List.set] <;> rfl) rfl ?_
            refine V_aload_n dX5_readNumber_69 rfl ?_
            refine V_dup dX5_readNumber_70 rfl ?_
            refine V_bget dX5_readNumber_71 fX5_28 (by decide) rfl (by (try simp only [mset_s, mset_n, pk_us, pk_un, ne_eq, Nat.reduceEqDiff, Nat.reduceAdd, not_false_eq_true, not_true_eq_false]) <;> rfl) ?_
            rw [show aP C (p + 1) 93 1 = nI (p + 1) from aP_1]
            refine V_iconst (v := 1) dX5_readNumber_74 (by decide) ?_
            refine V_iadd dX5_readNumber_75 ?_
            refine V_bputi (i0 := 1) dX5_readNumber_76 fX5_28 (by decide) rfl rfl rfl (Nat.le_of_ble_eq_true rfl) rfl ?_
            rw [show mset (aP C (p + 1)) 93 (upd (aP C (p + 1) 93) 1 (nI (p + 1) + 1)) = aP C (p + 2) from by rw [show nI (p + 1) + 1 = nI (p + 2) from nI_1 (p + 1)]; exact aP_aP]
            exact fin _ _ _ (by omega) (by unfold pNum; rw [if_pos ⟨hd, hl⟩, if_pos ⟨h0, hd2, hh⟩])
          · refine V_icmp_gt dX5_readNumber_58 (fun _ => ?_) (fun z => absurd ((clt (by repeat (first | with_reducible rfl | with_reducible exact nlit | with_reducible apply nadd | with_reducible apply nmul | with_reducible apply nsub | with_reducible assumption | omega)) (by repeat (first | with_reducible rfl | with_reducible exact nlit | with_reducible apply nadd | with_reducible apply nmul | with_reducible apply nsub | with_reducible assumption | omega)) (by omega) (by omega)).mpr (by omega)) z)
            exact fin _ _ _ (by omega) (by unfold pNum; rw [if_pos ⟨hd, hl⟩, if_neg (fun z => hh z.2.2)])
        · rw [if_neg hd2]
          refine V_if_lt dX5_readNumber_47 (fun _ => ?_) (fun z => absurd (by decide) z)
          exact fin _ _ _ (by omega) (by unfold pNum; rw [if_pos ⟨hd, hl⟩, if_neg (fun z => hd2 z.2.1)])
      · refine V_if_le dX5_readNumber_42 (fun _ => ?_) (fun z => absurd ((cle (by repeat (first | with_reducible rfl | with_reducible exact nlit | with_reducible apply nadd | with_reducible apply nmul | with_reducible apply nsub | with_reducible assumption | omega)) (by repeat (first | with_reducible rfl | with_reducible exact nlit | with_reducible apply nadd | with_reducible apply nmul | with_reducible apply nsub | with_reducible assumption | omega)) (by omega) (by omega)).mpr (by omega)) z)
        exact fin _ _ _ (by omega) (by unfold pNum; rw [if_pos ⟨hd, hl⟩, if_neg (fun z => h0 z.1)])
    by_cases h0 : 0 < dgN (chC C n p)
    · refine V_if_ne dX5_readNumber_13 (fun _ => ?_) (fun z => absurd z ((by intro z; exact absurd ((ceq rfl nlit (by omega) (by omega)).mp z) (by omega))))
      exact go (Or.inr h0)
    · refine V_if_ne dX5_readNumber_13 (fun z => absurd z (fun z => z (by rw [show dgN (chC C n p) = 0 by omega]; rfl))) (fun _ => ?_)
      refine V_iload_n dX5_readNumber_16 rfl ?_
      by_cases hl : lo = 0
      · refine V_if_le dX5_readNumber_17 (fun _ => ?_) (fun z => absurd ((cle (by repeat (first | with_reducible rfl | with_reducible exact nlit | with_reducible apply nadd | with_reducible apply nmul | with_reducible apply nsub | with_reducible assumption | omega)) (by repeat (first | with_reducible rfl | with_reducible exact nlit | with_reducible apply nadd | with_reducible apply nmul | with_reducible apply nsub | with_reducible assumption | omega)) (by omega) (by omega)).mpr (by omega)) z)
        exact go (Or.inl hl)
      · refine V_if_le dX5_readNumber_17 (fun z => absurd z (fun z => absurd ((cle (by repeat (first | with_reducible rfl | with_reducible exact nlit | with_reducible apply nadd | with_reducible apply nmul | with_reducible apply nsub | with_reducible assumption | omega)) (by repeat (first | with_reducible rfl | with_reducible exact nlit | with_reducible apply nadd | with_reducible apply nmul | with_reducible apply nsub | with_reducible assumption | omega)) (by omega) (by omega)).mp z) (by omega))) (fun _ => ?_)
        exact bad _ (by unfold pNum; rw [if_neg (fun z => z.2.elim hl h0)])
  · rw [if_neg hd]
    refine V_if_lt dX5_readNumber_9 (fun _ => ?_) (fun z => absurd (by decide) z)
    exact bad _ (by unfold pNum; rw [if_neg (fun z => hd z.1)])
end CLS
