/-! Play: begin, doTurn, doTurns. State: openSize, obey, playLoop, copyFrom. -/
/-- the row at q and the play, with the reason w -/
def plR (C : CT) (q : Nat) (s : PS) (w : Int32) : CT := mset (roS C q (s.1, s.2.1)) 101 (upd (upd (upd (C 101) 0 s.2.2.1) 1 s.2.2.2) 2 w)
theorem roS_q {C : CT} {q : Nat} {s : (Nat → Int32) × Nat} : roS C q s q = upd (C q) 0 (nI s.2) := by unfold roS; rw [mset_s]
theorem roS_q1 {C : CT} {q : Nat} {s : (Nat → Int32) × Nat} : roS C q s (q + 1) = s.1 := by unfold roS; rw [mset_n (by omega), mset_s]
theorem roS_n {C : CT} {q i : Nat} {s : (Nat → Int32) × Nat} (h : i ≠ q) (h1 : i ≠ q + 1) : roS C q s i = C i := by unfold roS; rw [mset_n h, mset_n h1]
theorem ct_ext3 {C C' : CT} {q : Nat} (h0 : C q = C' q) (h1 : C (q + 1) = C' (q + 1)) (h2 : C 101 = C' 101) (hn : ∀ i, i ≠ q → i ≠ q + 1 → i ≠ 101 → C i = C' i) : C = C' := by
  funext i
  by_cases e : i = q
  · rw [e, h0]
  by_cases e1 : i = q + 1
  · rw [e1, h1]
  by_cases e2 : i = 101
  · rw [e2, h2]
  exact hn i e e1 e2
theorem plR_q {C : CT} {q : Nat} {s : PS} {w : Int32} (h : q + 1 < 101 ∨ 101 < q) : plR C q s w q = upd (C q) 0 (nI s.2.1) := by unfold plR; rw [mset_n (by omega), roS_q]
theorem plR_q1 {C : CT} {q : Nat} {s : PS} {w : Int32} (h : q + 1 < 101 ∨ 101 < q) : plR C q s w (q + 1) = s.1 := by unfold plR; rw [mset_n (by omega), roS_q1]
theorem plR_p {C : CT} {q : Nat} {s : PS} {w : Int32} : plR C q s w 101 = upd (upd (upd (C 101) 0 s.2.2.1) 1 s.2.2.2) 2 w := by unfold plR; rw [mset_s]
theorem plR_n {C : CT} {q i : Nat} {s : PS} {w : Int32} (h : i ≠ q) (h1 : i ≠ q + 1) (h2 : i ≠ 101) : plR C q s w i = C i := by unfold plR; rw [mset_n h2, roS_n h h1]
theorem plR_w {C : CT} {q : Nat} {s : PS} {w w' : Int32} (h : q + 1 < 101 ∨ 101 < q) : mset (plR C q s w) 101 (upd (plR C q s w 101) 2 w') = plR C q s w' := by
  refine ct_ext3 (q := q) ?_ ?_ ?_ (fun i a1 a2 a3 => ?_)
  · rw [mset_n (by omega), plR_q h, plR_q h]
  · rw [mset_n (by omega), plR_q1 h, plR_q1 h]
  · rw [mset_s, plR_p, plR_p, uus]
  · rw [mset_n a3, plR_n a1 a2 a3, plR_n a1 a2 a3]
/-- one step of the row within a play -/
theorem plR_st {C : CT} {q m : Nat} {s : PS} {v w : Int32} (h : q + 1 < 101 ∨ 101 < q) : roS (mset (plR C q s w) 101 (upd (plR C q s w 101) 0 (s.2.2.1 + 1))) q (rowStep s.1 s.2.1 v m) = plR C q ((rowStep s.1 s.2.1 v m).1, (rowStep s.1 s.2.1 v m).2, s.2.2.1 + 1, s.2.2.2) w := by
  refine ct_ext3 (q := q) ?_ ?_ ?_ (fun i a1 a2 a3 => ?_)
  · rw [roS_q, mset_n (by omega), plR_q h, plR_q h, uus]
  · rw [roS_q1, plR_q1 h]
  · rw [roS_n (by omega) (by omega), mset_s, plR_p, plR_p]
    rw [upd_comm (i := 2) (j := 0) (by decide), upd_comm (i := 1) (j := 0) (by decide), uus]
  · rw [roS_n a1 a2, mset_n a3, plR_n a1 a2 a3, plR_n a1 a2 a3]
theorem plR_t {C : CT} {q : Nat} {c : Nat → Int32} {hd : Nat} {dn tp w : Int32} (h : q + 1 < 101 ∨ 101 < q) : mset (plR C q (c, hd, dn, tp) w) 101 (upd (plR C q (c, hd, dn, tp) w 101) 1 (tp + 1)) = plR C q (c, hd, dn, tp + 1) w := by
  refine ct_ext3 (q := q) ?_ ?_ ?_ (fun i a1 a2 a3 => ?_)
  · rw [mset_n (by omega), plR_q h, plR_q h]
  · rw [mset_n (by omega), plR_q1 h, plR_q1 h]
  · rw [mset_s, plR_p, plR_p, upd_comm (i := 2) (j := 1) (by decide), uus]
  · rw [mset_n a3, plR_n a1 a2 a3, plR_n a1 a2 a3]
abbrev shv (C : CT) (p W n k : Nat) : Int32 := C (p + 1) (n * W + k)
abbrev shn (C : CT) (p W n k : Nat) : Int32 := C (p + 2) (n * W + k)
abbrev sht (C : CT) (p W n k : Nat) : Int32 := C (p + 3) (n * W + k)
section CLS
variable {G : GT} {l : Launch} {sz a : Nat} {C : CT} {q p W N : Nat}
theorem tX1_begin : Ct G l yX1_begin cX1_begin 1 none 0 0 0 sz [.ref (a + 101)] (B G a C) (Rwu G a (mset C 101 (upd (upd (upd (C 101) 0 0) 1 0) 2 0))) := by
  refine Ct.of (own := RX1) (mn := "begin") (L0 := [some (.ref (a + 101))]) (by decide +kernel) rfl rfl rfl (Nat.le_of_ble_eq_true rfl) rfl ?_
  refine V_aload_n dX1_begin_0 rfl ?_
  refine V_iconst (v := 0) dX1_begin_1 (by decide) ?_
  refine V_bputi (i0 := 0) dX1_begin_2 fX1_9 (by decide) rfl rfl rfl (Nat.le_of_ble_eq_true rfl) rfl ?_
  refine V_aload_n dX1_begin_5 rfl ?_
  refine V_iconst (v := 0) dX1_begin_6 (by decide) ?_
  refine V_bputi (i0 := 1) dX1_begin_7 fX1_15 (by decide) rfl rfl rfl (Nat.le_of_ble_eq_true rfl) rfl ?_
  refine V_aload_n dX1_begin_10 rfl ?_
  refine V_iconst (v := 0) dX1_begin_11 (by decide) ?_
  refine V_bputi (i0 := 2) dX1_begin_12 fX1_18 (by decide) rfl rfl rfl (Nat.le_of_ble_eq_true rfl) rfl ?_
  refine V_vret dX1_begin_15 rfl rfl rfl ?_
  refine Rwu_i ?_
  simp only [mset_s, mset_ss, mset_n, pk_us, pk_un, uus, ne_eq, Nat.reduceEqDiff, Nat.reduceAdd, not_false_eq_true, not_true_eq_false]
set_option maxHeartbeats 4000000 in
theorem tX1_doTurn {n size : Nat} {s : PS} {r : Int32} (hr : RoK G a q) (hs : ShK G a p W N) (hq : q + 1 < 101 ∨ 101 < q) (hp : p + 5 < 101) (hpq : q + 1 < p ∨ p + 5 < q) (hhd : s.2.1 < 30) (hn : n < N) (hsz : C (p + 4) n = nI size) (hW : size ≤ W) : Ct G l yX1_doTurn cX1_doTurn 9 (some .boolean) 3 0 0 sz [.ref (a + 101), .ref (a + q), .ref (a + p), .int (nI n), .int r] (B G a (plR C q s 0)) (Rw G a (.int (bI ((plTurn (shv C p W n) (shn C p W n) (sht C p W n) r size 0 s).2 = 0))) (plR C q (plTurn (shv C p W n) (shn C p W n) (sht C p W n) r size 0 s).1 (plTurn (shv C p W n) (shn C p W n) (sht C p W n) r size 0 s).2)) := by
  have hW2 := hs.W
  have rd : ∀ (i : Nat) (s' : PS) (w : Int32), 1 ≤ i → i ≤ 5 → plR C q s' w (p + i) = C (p + i) := fun i s' w h1 h2 => plR_n (by omega) (by omega) (by omega)
  refine Ct.of (own := RX1) (mn := "doTurn") (L0 := [some (.ref (a + 101)), some (.ref (a + q)), some (.ref (a + p)), some (.int (nI n)), some (.int r), none, none, none, none]) (by decide +kernel) rfl rfl rfl (Nat.le_of_ble_eq_true rfl) rfl ?_
  refine V_aload_n dX1_doTurn_0 rfl ?_
  refine V_iload_n dX1_doTurn_1 rfl ?_
  refine V_callVw dX1_doTurn_2 kX1_28 ykX3_sizeOf (by have := hs.b; omega) (hs.o _) rfl (tX3_sizeOf hs hn) rfl (Nat.le_of_ble_eq_true rfl) ⟨by decide, by decide, by decide, by decide⟩ ?_
  rw [rd 4 s 0 (by decide) (by decide), hsz]
  refine V_istore dX1_doTurn_5 (by decide) (by dsimp only [List.set] <;> rfl) rfl ?_
  refine V_iconst (v := 0) dX1_doTurn_7 (by decide) ?_
  refine V_istore dX1_doTurn_8 (by decide) (by dsimp only [List.set] <;> rfl) rfl ?_
  have key : ∀ (m k : Nat) (s' : PS) (L7 L8 : Option Value), k + m = size → plTurn (shv C p W n) (shn C p W n) (sht C p W n) r size 0 s = plTurn (shv C p W n) (shn C p W n) (sht C p W n) r m k s' → s'.2.1 < 30 → V G l RX1 "doTurn" cX1_doTurn 9 (some .boolean) (rmd 3 0 0) E0 (Qm G (Rw G a (.int (bI ((plTurn (shv C p W n) (shn C p W n) (sht C p W n) r size 0 s).2 = 0))) (plR C q (plTurn (shv C p W n) (shn C p W n) (sht C p W n) r size 0 s).1 (plTurn (shv C p W n) (shn C p W n) (sht C p W n) r size 0 s).2)) sz 0 0) sz 0 0 10 [some (.ref (a + 101)), some (.ref (a + q)), some (.ref (a + p)), some (.int (nI n)), some (.int r), some (.int (nI size)), some (.int (nI k)), L7, L8] [] (B G a (plR C q s' 0)) := by
    intro m
    induction m with
    | zero =>
      intro k s' L7 L8 hk he h30
      obtain rfl : k = size := by omega
      refine V_iload dX1_doTurn_10 rfl ?_
      refine V_iload dX1_doTurn_12 rfl ?_
      refine V_icmp_ge dX1_doTurn_14 (fun _ => ?_) (fun z => absurd ((cle (by repeat (first | with_reducible rfl | with_reducible exact nlit | with_reducible apply nadd | with_reducible apply nmul | with_reducible apply nsub | with_reducible assumption | omega)) (by repeat (first | with_reducible rfl | with_reducible exact nlit | with_reducible apply nadd | with_reducible apply nmul | with_reducible apply nsub | with_reducible assumption | omega)) (by omega) (by omega)).mpr (by omega)) z)
      refine V_iconst (v := 1) dX1_doTurn_104 (by decide) ?_
      refine V_zret dX1_doTurn_105 rfl (by first | rfl | exact bI_nar) rfl rfl ?_
      rw [he]
      exact Rw_i (bI_t rfl).symm rfl
    | succ m ih =>
      intro k s' L7 L8 hk he h30
      have h0 : plR C q s' 0 q 0 = nI s'.2.1 := by rw [plR_q hq, pk_us]
      refine V_iload dX1_doTurn_10 rfl ?_
      refine V_iload dX1_doTurn_12 rfl ?_
      refine V_icmp_ge dX1_doTurn_14 (fun z => absurd z (fun z => absurd ((cle (by repeat (first | with_reducible rfl | with_reducible exact nlit | with_reducible apply nadd | with_reducible apply nmul | with_reducible apply nsub | with_reducible assumption | omega)) (by repeat (first | with_reducible rfl | with_reducible exact nlit | with_reducible apply nadd | with_reducible apply nmul | with_reducible apply nsub | with_reducible assumption | omega)) (by omega) (by omega)).mp z) (by omega))) (fun _ => ?_)
      refine V_aload_n dX1_doTurn_17 rfl ?_
      refine V_iload_n dX1_doTurn_18 rfl ?_
      refine V_iload dX1_doTurn_19 rfl ?_
      refine V_callVw dX1_doTurn_21 kX1_34 ykX3_verbAt (by have := hs.b; omega) (hs.o _) rfl (tX3_verbAt hs hn (by omega)) rfl (Nat.le_of_ble_eq_true rfl) ⟨by decide, by decide, by decide, by decide⟩ ?_
      rw [rd 1 s' 0 (by decide) (by decide)]
      refine V_istore dX1_doTurn_24 (by decide) (by dsimp only [List.set] <;> rfl) rfl ?_
      refine V_aload_n dX1_doTurn_26 rfl ?_
      refine V_iload_n dX1_doTurn_27 rfl ?_
      refine V_iload dX1_doTurn_28 rfl ?_
      refine V_iload dX1_doTurn_30 rfl ?_
      refine V_callVw dX1_doTurn_32 kX1_38 ykX3_numberInTurn (by have := hs.b; omega) (hs.o _) rfl (tX3_numberInTurn hs hn (by omega)) rfl (Nat.le_of_ble_eq_true rfl) ⟨by decide, by decide, by decide, by decide⟩ ?_
      rw [rd 2 s' 0 (by decide) (by decide), rd 3 s' 0 (by decide) (by decide)]
      obtain ⟨v, hv⟩ : ∃ v, v = shv C p W n k := ⟨_, rfl⟩
      obtain ⟨x1, hx⟩ : ∃ x1, x1 = shn C p W n k + r * sht C p W n k := ⟨_, rfl⟩
      have hv' : C (p + 1) (n * W + k) = v := hv.symm
      have hx' : C (p + 2) (n * W + k) + r * C (p + 3) (n * W + k) = x1 := hx.symm
      rw [plTurn, ← hv, ← hx] at he
      rw [hv', hx']
      refine V_istore dX1_doTurn_35 (by decide) (by dsimp only [List.set] <;> rfl) rfl ?_
      refine V_iload dX1_doTurn_37 rfl ?_
      refine V_iload dX1_doTurn_39 rfl ?_
      refine V_callSw dX1_doTurn_41 kX1_42 ykX6_inRange (tX6_inRange v x1) rfl (Nat.le_of_ble_eq_true rfl) ⟨by decide, by decide, by decide, by decide⟩ ?_
      by_cases hin : inR v x1
      · obtain ⟨e1, e2, e3⟩ := inR_nat hin
        rw [if_pos hin] at he
        refine V_if_ne dX1_doTurn_44 (fun _ => ?_) (fun z => absurd z ((bI_ne0.mpr hin)))
        refine V_aload_n dX1_doTurn_54 rfl ?_
        refine V_dup dX1_doTurn_55 rfl ?_
        refine V_bget dX1_doTurn_56 fX1_9 (by decide) rfl (by (try simp only [mset_s, mset_n, pk_us, pk_un, ne_eq, Nat.reduceEqDiff, Nat.reduceAdd, not_false_eq_true, not_true_eq_false]) <;> rfl) ?_
        rw [show plR C q s' 0 101 0 = s'.2.2.1 from by rw [plR_p]; rfl]
        generalize x1.toInt.toNat = xn at e1 e2 e3 he
        rw [e1]
        have hm1 : mset (plR C q s' 0) 101 (upd (plR C q s' 0 101) 0 (s'.2.2.1 + 1)) q = plR C q s' 0 q := mset_n (by omega)
        have hm2 : mset (plR C q s' 0) 101 (upd (plR C q s' 0 101) 0 (s'.2.2.1 + 1)) (q + 1) = s'.1 := by rw [mset_n (by omega), plR_q1 hq]
        have ho := tX2_obey (G := G) (l := l) (sz := sz) (a := a) (C := mset (plR C q s' 0) 101 (upd (plR C q s' 0 101) 0 (s'.2.2.1 + 1))) (q := q) (hd := s'.2.1) (m := xn) (v := v) hr (by rw [hm1]; exact h0) h30 (fun z => e3 (z.elim (fun w => Or.inr (Or.inl w)) (fun w => Or.inr (Or.inr w)))) e2
        rw [hm2, plR_st hq] at ho
        refine V_iconst (v := 1) dX1_doTurn_59 (by decide) ?_
        refine V_iadd dX1_doTurn_60 ?_
        refine V_bputi (i0 := 0) dX1_doTurn_61 fX1_9 (by decide) rfl rfl rfl (Nat.le_of_ble_eq_true rfl) rfl ?_
        refine V_aload_n dX1_doTurn_64 rfl ?_
        refine V_iload dX1_doTurn_65 rfl ?_
        refine V_iload dX1_doTurn_67 rfl ?_
        refine V_callVw dX1_doTurn_69 kX1_46 ykX2_obey (by have := hr.1; omega) (hr.2.1 _) rfl ho rfl (Nat.le_of_ble_eq_true rfl) ⟨by decide, by decide, by decide, by decide⟩ ?_
        by_cases hps : pStep s'.1 s'.2.1 v xn
        · rw [if_pos hps] at he
          have h30' : (stS v xn s').2.1 < 30 := by
            have := rowStep_hd (c := s'.1) h30 hin
            have e4 : x1.toInt.toNat = xn := by rw [e1, nI_toInt (by omega)]; rfl
            rw [e4] at this
            exact this
          refine V_if_ne dX1_doTurn_72 (fun _ => ?_) (fun z => absurd z ((bI_ne0.mpr hps)))
          refine V_iload dX1_doTurn_82 rfl ?_
          refine V_iconst (v := 5) dX1_doTurn_84 (by decide) ?_
          by_cases h5 : v = 5
          · refine V_icmp_ne dX1_doTurn_85 (fun z => absurd z (fun z => z h5)) (fun _ => ?_)
            refine V_aload_n dX1_doTurn_88 rfl ?_
            refine V_dup dX1_doTurn_89 rfl ?_
            refine V_bget dX1_doTurn_90 fX1_15 (by decide) rfl (by (try simp only [mset_s, mset_n, pk_us, pk_un, ne_eq, Nat.reduceEqDiff, Nat.reduceAdd, not_false_eq_true, not_true_eq_false]) <;> rfl) ?_
            rw [show plR C q ((rowStep s'.1 s'.2.1 v xn).1, (rowStep s'.1 s'.2.1 v xn).2, s'.2.2.1 + 1, s'.2.2.2) 0 101 1 = s'.2.2.2 from by rw [plR_p]; rfl]
            refine V_iconst (v := 1) dX1_doTurn_93 (by decide) ?_
            refine V_iadd dX1_doTurn_94 ?_
            refine V_bputi (i0 := 1) dX1_doTurn_95 fX1_15 (by decide) rfl rfl rfl (Nat.le_of_ble_eq_true rfl) rfl ?_
            rw [plR_t hq]
            refine V_iinc dX1_doTurn_98 rfl (ninc _) (by decide) (by dsimp only [List.set] <;> rfl) ?_
            refine V_goto dX1_doTurn_101 ?_
            have e5 : stS v xn s' = ((rowStep s'.1 s'.2.1 v xn).1, (rowStep s'.1 s'.2.1 v xn).2, s'.2.2.1 + 1, s'.2.2.2 + 1) := by unfold stS; rw [if_pos ⟨h5, hps⟩]
            rw [← e5]
            exact ih (k + 1) _ _ _ (by omega) he h30'
          · refine V_icmp_ne dX1_doTurn_85 (fun _ => ?_) (fun z => absurd z h5)
            refine V_iinc dX1_doTurn_98 rfl (ninc _) (by decide) (by dsimp only [List.set] <;> rfl) ?_
            refine V_goto dX1_doTurn_101 ?_
            have e5 : stS v xn s' = ((rowStep s'.1 s'.2.1 v xn).1, (rowStep s'.1 s'.2.1 v xn).2, s'.2.2.1 + 1, s'.2.2.2) := by unfold stS; rw [if_neg (fun z => h5 z.1), i_add0]
            rw [← e5]
            exact ih (k + 1) _ _ _ (by omega) he h30'
        · rw [if_neg hps] at he
          have e5 : stS v xn s' = ((rowStep s'.1 s'.2.1 v xn).1, (rowStep s'.1 s'.2.1 v xn).2, s'.2.2.1 + 1, s'.2.2.2) := by unfold stS; rw [if_neg (fun z => hps z.2), i_add0]
          refine V_if_ne dX1_doTurn_72 (fun z => absurd z (fun z => z (bI_f hps))) (fun _ => ?_)
          refine V_aload_n dX1_doTurn_75 rfl ?_
          refine V_iconst (v := 2) dX1_doTurn_76 (by decide) ?_
          refine V_bputi (i0 := 2) dX1_doTurn_77 fX1_18 (by decide) rfl rfl rfl (Nat.le_of_ble_eq_true rfl) rfl ?_
          refine V_iconst (v := 0) dX1_doTurn_80 (by decide) ?_
          refine V_zret dX1_doTurn_81 rfl (by first | rfl | exact bI_nar) rfl rfl ?_
          rw [plR_w hq, ← e5, he]
          exact Rw_i (bI_f (fun z => absurd z (by first | exact (show ¬ (2 : Int32) = 0 by decide) | exact (show ¬ (1 : Int32) = 0 by decide)))).symm rfl
      · rw [if_neg hin] at he
        refine V_if_ne dX1_doTurn_44 (fun z => absurd z (fun z => z (bI_f hin))) (fun _ => ?_)
        refine V_aload_n dX1_doTurn_47 rfl ?_
        refine V_iconst (v := 1) dX1_doTurn_48 (by decide) ?_
        refine V_bputi (i0 := 2) dX1_doTurn_49 fX1_18 (by decide) rfl rfl rfl (Nat.le_of_ble_eq_true rfl) rfl ?_
        refine V_iconst (v := 0) dX1_doTurn_52 (by decide) ?_
        refine V_zret dX1_doTurn_53 rfl (by first | rfl | exact bI_nar) rfl rfl ?_
        rw [plR_w hq, he]
        exact Rw_i (bI_f (fun z => absurd z (by first | exact (show ¬ (2 : Int32) = 0 by decide) | exact (show ¬ (1 : Int32) = 0 by decide)))).symm rfl
  exact key size 0 s _ _ (by omega) rfl hhd
set_option maxHeartbeats 4000000 in
theorem tX1_doTurns {n size T hd : Nat} {c : Nat → Int32} (hr : RoK G a q) (hs : ShK G a p W N) (hq : q + 1 < 101 ∨ 101 < q) (hp : p + 5 < 101) (hpq : q + 1 < p ∨ p + 5 < q) (hc : C (q + 1) = c) (h0 : C q 0 = nI hd) (hhd : hd < 30) (hn : n < N) (hsz : C (p + 4) n = nI size) (hW : size ≤ W) (hT : T < 2147483648) : Ct G l yX1_doTurns cX1_doTurns 7 none 4 0 0 sz [.ref (a + 101), .ref (a + q), .ref (a + p), .int (nI n), .int (nI T)] (B G a C) (Rwu G a (plR C q (plBody (shv C p W n) (shn C p W n) (sht C p W n) size T 0 (c, hd, 0, 0)).1 (plBody (shv C p W n) (shn C p W n) (sht C p W n) size T 0 (c, hd, 0, 0)).2)) := by
  have e0 : mset C 101 (upd (upd (upd (C 101) 0 0) 1 0) 2 0) = plR C q (c, hd, 0, 0) 0 := by
    refine ct_ext3 (q := q) ?_ ?_ ?_ (fun i a1 a2 a3 => ?_)
    · rw [mset_n (by omega), plR_q hq, ← h0, u_eta]
    · rw [mset_n (by omega), plR_q1 hq, hc]
    · rw [mset_s, plR_p]
    · rw [mset_n a3, plR_n a1 a2 a3]
  refine Ct.of (own := RX1) (mn := "doTurns") (L0 := [some (.ref (a + 101)), some (.ref (a + q)), some (.ref (a + p)), some (.int (nI n)), some (.int (nI T)), none, none]) (by decide +kernel) rfl rfl rfl (Nat.le_of_ble_eq_true rfl) rfl ?_
  refine V_aload_n dX1_doTurns_0 rfl ?_
  refine V_callVu dX1_doTurns_1 kX1_21 ykX1_begin (by decide) rfl rfl tX1_begin rfl (Nat.le_of_ble_eq_true rfl) ⟨by decide, by decide, by decide, by decide⟩ ?_
  rw [e0]
  refine V_iconst (v := 1) dX1_doTurns_4 (by decide) ?_
  refine V_istore dX1_doTurns_5 (by decide) (by dsimp only [List.set] <;> rfl) rfl ?_
  refine V_iconst (v := 0) dX1_doTurns_7 (by decide) ?_
  refine V_istore dX1_doTurns_8 (by decide) (by dsimp only [List.set] <;> rfl) rfl ?_
  have key : ∀ (m t : Nat) (s' : PS), t + m = T → plBody (shv C p W n) (shn C p W n) (sht C p W n) size T 0 (c, hd, 0, 0) = plBody (shv C p W n) (shn C p W n) (sht C p W n) size m t s' → s'.2.1 < 30 → V G l RX1 "doTurns" cX1_doTurns 7 none (rmd 4 0 0) E0 (Qm G (Rwu G a (plR C q (plBody (shv C p W n) (shn C p W n) (sht C p W n) size T 0 (c, hd, 0, 0)).1 (plBody (shv C p W n) (shn C p W n) (sht C p W n) size T 0 (c, hd, 0, 0)).2)) sz 0 0) sz 0 0 10 [some (.ref (a + 101)), some (.ref (a + q)), some (.ref (a + p)), some (.int (nI n)), some (.int (nI T)), some (.int 1), some (.int (nI t))] [] (B G a (plR C q s' 0)) := by
    intro m
    induction m with
    | zero =>
      intro t s' hk he h30
      obtain rfl : t = T := by omega
      refine V_iload dX1_doTurns_10 rfl ?_
      refine V_if_eq dX1_doTurns_12 (fun z => absurd z (by decide)) (fun _ => ?_)
      refine V_iload dX1_doTurns_15 rfl ?_
      refine V_iload dX1_doTurns_17 rfl ?_
      refine V_icmp_ge dX1_doTurns_19 (fun _ => ?_) (fun z => absurd ((cle (by repeat (first | with_reducible rfl | with_reducible exact nlit | with_reducible apply nadd | with_reducible apply nmul | with_reducible apply nsub | with_reducible assumption | omega)) (by repeat (first | with_reducible rfl | with_reducible exact nlit | with_reducible apply nadd | with_reducible apply nmul | with_reducible apply nsub | with_reducible assumption | omega)) (by omega) (by omega)).mpr (by omega)) z)
      refine V_vret dX1_doTurns_39 rfl rfl rfl ?_
      rw [he]
      exact Rwu_i rfl
    | succ m ih =>
      intro t s' hk he h30
      have ht := plTurn_hd (bv := shv C p W n) (bn := shn C p W n) (bs := sht C p W n) (r := nI t) size 0 s' h30
      have ct := tX1_doTurn (G := G) (l := l) (sz := sz + 0) (a := a) (C := C) (q := q) (p := p) (W := W) (N := N) (n := n) (size := size) (s := s') (r := nI t) hr hs hq hp hpq h30 hn hsz hW
      rw [plBody] at he
      refine V_iload dX1_doTurns_10 rfl ?_
      refine V_if_eq dX1_doTurns_12 (fun z => absurd z (by decide)) (fun _ => ?_)
      refine V_iload dX1_doTurns_15 rfl ?_
      refine V_iload dX1_doTurns_17 rfl ?_
      refine V_icmp_ge dX1_doTurns_19 (fun z => absurd z (fun z => absurd ((cle (by repeat (first | with_reducible rfl | with_reducible exact nlit | with_reducible apply nadd | with_reducible apply nmul | with_reducible apply nsub | with_reducible assumption | omega)) (by repeat (first | with_reducible rfl | with_reducible exact nlit | with_reducible apply nadd | with_reducible apply nmul | with_reducible apply nsub | with_reducible assumption | omega)) (by omega) (by omega)).mp z) (by omega))) (fun _ => ?_)
      refine V_aload_n dX1_doTurns_22 rfl ?_
      refine V_aload_n dX1_doTurns_23 rfl ?_
      refine V_aload_n dX1_doTurns_24 rfl ?_
      refine V_iload_n dX1_doTurns_25 rfl ?_
      refine V_iload dX1_doTurns_26 rfl ?_
      refine V_callVw dX1_doTurns_28 kX1_24 ykX1_doTurn (by decide) rfl rfl ct rfl (Nat.le_of_ble_eq_true rfl) ⟨by decide, by decide, by decide, by decide⟩ ?_
      by_cases h2 : (plTurn (shv C p W n) (shn C p W n) (sht C p W n) (nI t) size 0 s').2 = 0
      · rw [if_pos h2] at he
        rw [bI_t h2, h2]
        refine V_istore dX1_doTurns_31 (by decide) (by dsimp only [List.set] <;> rfl) rfl ?_
        refine V_iinc dX1_doTurns_33 rfl (ninc _) (by decide) (by dsimp only [List.set] <;> rfl) ?_
        refine V_goto dX1_doTurns_36 ?_
        exact ih (t + 1) _ (by omega) he ht
      · rw [if_neg h2] at he
        rw [bI_f h2]
        refine V_istore dX1_doTurns_31 (by decide) (by dsimp only [List.set] <;> rfl) rfl ?_
        refine V_iinc dX1_doTurns_33 rfl (ninc _) (by decide) (by dsimp only [List.set] <;> rfl) ?_
        refine V_goto dX1_doTurns_36 ?_
        refine V_iload dX1_doTurns_10 rfl ?_
        refine V_if_eq dX1_doTurns_12 (fun _ => ?_) (fun z => absurd rfl z)
        refine V_vret dX1_doTurns_39 rfl rfl rfl ?_
        rw [he]
        exact Rwu_i rfl
  exact key T 0 _ (by omega) rfl hhd
end CLS
