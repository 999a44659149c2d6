/-! TryLoops: ifPlayed, fewestTurns. -/
/-- the row that is rehearsed on, behind the copy -/
abbrev rhF (C : CT) : Nat → Int32 := va_cpy (C 3) (C 103) 0 0 30
def rhC (C : CT) : CT := mset (mset C 103 (rhF C)) 102 (upd (C 102) 0 (C 2 0))
theorem rhC_n {C : CT} {i : Nat} (h : i ≠ 102) (h1 : i ≠ 103) : rhC C i = C i := by unfold rhC; rw [mset_n h, mset_n h1]
theorem rhC_103 {C : CT} : rhC C 103 = rhF C := by unfold rhC; rw [mset_n (by decide), mset_s]
theorem rhC_102 {C : CT} : rhC C 102 0 = C 2 0 := by unfold rhC; rw [mset_s, pk_us]
theorem SC_rh {C : CT} {P : PS} {w : Int32} : SC C (plR (rhC C) 102 P w) := by
  have hh : 102 + 1 < 101 ∨ 101 < 102 := Or.inr (by decide)
  refine ⟨?_, fun i hi => ?_⟩
  · rw [plR_n (by decide) (by decide) (by decide), rhC_n (by decide) (by decide)]
  · rw [plR_n (scr_ne rfl hi) (scr_ne rfl hi) (scr_ne rfl hi), rhC_n (scr_ne rfl hi) (scr_ne rfl hi)]
theorem fewF_s {bv bn bs : Nat → Int32} {size cl m t : Nat} {v : Int32} {s : PS} : fewF bv bn bs size cl v (m + 1) t s = (if (plTurn bv bn bs (nI t) size 0 s).1.1 cl = v then nI (t + 1) else if (plTurn bv bn bs (nI t) size 0 s).2 = 0 then fewF bv bn bs size cl v m (t + 1) (plTurn bv bn bs (nI t) size 0 s).1 else -5) := rfl
section CLS
variable {G : GT} {l : Launch} {sz a : Nat} {C : CT}
theorem tX6_ifPlayed_o {lc : Nat} (x1 x2 x3 : Int32) (h10 : C 10 0 = nI lc) (hlc : lc ≤ 6) (hx : ¬ isIx x1 lc) : Ct G l yX6_ifPlayed cX6_ifPlayed 4 (some .int) 5 0 0 sz [.ref a, .int x1, .int x2, .int x3] (B G a C) (Rw G a (.int (-1)) C) := by
  refine Ct.of (own := RX6) (mn := "ifPlayed") (L0 := [some (.ref (a + 0)), some (.int x1), some (.int x2), some (.int x3)]) (by decide +kernel) rfl rfl rfl (Nat.le_of_ble_eq_true rfl) rfl ?_
  refine V_aload_n dX6_ifPlayed_0 rfl ?_
  refine V_bget dX6_ifPlayed_1 fX6_12 (by decide) rfl (by (try simp only [mset_s, mset_n, pk_us, pk_un, ne_eq, Nat.reduceEqDiff, Nat.reduceAdd, not_false_eq_true, not_true_eq_false]) <;> rfl) ?_
  refine V_bget dX6_ifPlayed_4 fX6_115 (by decide) rfl (by (try simp only [mset_s, mset_n, pk_us, pk_un, ne_eq, Nat.reduceEqDiff, Nat.reduceAdd, not_false_eq_true, not_true_eq_false]) <;> rfl) ?_
  refine V_iload_n dX6_ifPlayed_7 rfl ?_
  refine V_callVw dX6_ifPlayed_8 kX6_105 ykX3_holds (by decide) rfl rfl (tX3_holds (q := 10) (cnt := lc) stk1.sh9 h10 (by omega)) rfl (Nat.le_of_ble_eq_true rfl) ⟨by decide, by decide, by decide, by decide⟩ ?_
  refine V_if_ne dX6_ifPlayed_11 (fun z => absurd z (fun z => z (bI_f hx))) (fun _ => ?_)
  refine V_iconst (v := (-1)) dX6_ifPlayed_14 (by decide) ?_
  refine V_iret dX6_ifPlayed_15 rfl rfl rfl ?_
  exact Rw_i rfl rfl
theorem tX6_ifPlayed_r {lc n : Nat} (x2 x3 : Int32) (h10 : C 10 0 = nI lc) (hlc : lc ≤ 6) (hn : n < lc) (hx : ¬ ((1 ≤ x2 ∧ x2 ≤ 99) ∧ (0 ≤ x3 ∧ x3 ≤ 4))) : Ct G l yX6_ifPlayed cX6_ifPlayed 4 (some .int) 5 0 0 sz [.ref a, .int (nI n), .int x2, .int x3] (B G a C) (Rw G a (.int (-2)) C) := by
  refine Ct.of (own := RX6) (mn := "ifPlayed") (L0 := [some (.ref (a + 0)), some (.int (nI n)), some (.int x2), some (.int x3)]) (by decide +kernel) rfl rfl rfl (Nat.le_of_ble_eq_true rfl) rfl ?_
  refine V_aload_n dX6_ifPlayed_0 rfl ?_
  refine V_bget dX6_ifPlayed_1 fX6_12 (by decide) rfl (by (try simp only [mset_s, mset_n, pk_us, pk_un, ne_eq, Nat.reduceEqDiff, Nat.reduceAdd, not_false_eq_true, not_true_eq_false]) <;> rfl) ?_
  refine V_bget dX6_ifPlayed_4 fX6_115 (by decide) rfl (by (try simp only [mset_s, mset_n, pk_us, pk_un, ne_eq, Nat.reduceEqDiff, Nat.reduceAdd, not_false_eq_true, not_true_eq_false]) <;> rfl) ?_
  refine V_iload_n dX6_ifPlayed_7 rfl ?_
  refine V_callVw dX6_ifPlayed_8 kX6_105 ykX3_holds (by decide) rfl rfl (tX3_holds (q := 10) (cnt := lc) stk1.sh9 h10 (by omega)) rfl (Nat.le_of_ble_eq_true rfl) ⟨by decide, by decide, by decide, by decide⟩ ?_
  refine V_if_ne dX6_ifPlayed_11 (fun _ => ?_) (fun z => absurd z ((bI_ne0.mpr (isIx_nI hn (by omega)))))
  refine V_iload_n dX6_ifPlayed_16 rfl ?_
  refine V_callSw dX6_ifPlayed_17 kX6_128 ykX6_isTurns (tX6_isTurns x2) rfl (Nat.le_of_ble_eq_true rfl) ⟨by decide, by decide, by decide, by decide⟩ ?_
  by_cases h2 : 1 ≤ x2 ∧ x2 ≤ 99
  · refine V_if_eq dX6_ifPlayed_20 (fun z => absurd z (bI_ne0.mpr h2)) (fun _ => ?_)
    refine V_iload_n dX6_ifPlayed_23 rfl ?_
    refine V_if_lt dX6_ifPlayed_24 (fun c24 => ?_) (fun c24 => ?_)
    · refine V_bipush (v := (-2)) dX6_ifPlayed_32 (by decide) ?_
      refine V_iret dX6_ifPlayed_34 rfl rfl rfl ?_
      exact Rw_i rfl rfl
    · refine V_iload_n dX6_ifPlayed_27 rfl ?_
      refine V_iconst (v := 4) dX6_ifPlayed_28 (by decide) ?_
      refine V_icmp_le dX6_ifPlayed_29 (fun c29 => ?_) (fun c29 => ?_)
      · exact absurd ⟨h2, by rw [i_le, i_le]; rw [i_lt] at c24; rw [i_le] at c29; exact ⟨by omega, c29⟩⟩ hx
      · refine V_bipush (v := (-2)) dX6_ifPlayed_32 (by decide) ?_
        refine V_iret dX6_ifPlayed_34 rfl rfl rfl ?_
        exact Rw_i rfl rfl
  · refine V_if_eq dX6_ifPlayed_20 (fun _ => ?_) (fun z => absurd (bI_f h2) z)
    refine V_bipush (v := (-2)) dX6_ifPlayed_32 (by decide) ?_
    refine V_iret dX6_ifPlayed_34 rfl rfl rfl ?_
    exact Rw_i rfl rfl
set_option maxHeartbeats 4000000 in
theorem tX6_ifPlayed {lc n len T hd : Nat} {P : PS × Int32} (x3 : Int32) (h10 : C 10 0 = nI lc) (hlc : lc ≤ 6) (hn : n < lc) (hl : C 14 n = nI len) (hlen : len ≤ 12) (hT : 1 ≤ T ∧ T ≤ 99) (hx3 : 0 ≤ x3 ∧ x3 ≤ 4) (h0 : C 2 0 = nI hd) (hhd : hd < 30) (hP : P = plBody (shv C 10 12 n) (shn C 10 12 n) (sht C 10 12 n) len T 0 (rhF C, hd, 0, 0)) : Ct G l yX6_ifPlayed cX6_ifPlayed 4 (some .int) 5 0 0 sz [.ref a, .int (nI n), .int (nI T), .int x3] (B G a C) (Rs G a (.int (if x3 = 0 then P.1.2.2.1 else if x3 = 1 then P.2 else if x3 = 2 then sumF P.1.1 30 else if x3 = 3 then nI P.1.2.1 else P.1.2.2.2)) C) := by
  have hTt : (1 : Int32) ≤ nI T ∧ nI T ≤ 99 := ⟨(cle (nlit (n := 1)) rfl (by decide) (by omega)).mpr hT.1, (cle rfl (nlit (n := 99)) (by omega) (by decide)).mpr hT.2⟩
  have hx31 := hx3.1
  have hx32 := hx3.2
  rw [i_le] at hx31 hx32
  have z0 : (0 : Int32).toInt = 0 := rfl
  have z4 : (4 : Int32).toInt = 4 := rfl
  refine Ct.of (own := RX6) (mn := "ifPlayed") (L0 := [some (.ref (a + 0)), some (.int (nI n)), some (.int (nI T)), some (.int x3)]) (by decide +kernel) rfl rfl rfl (Nat.le_of_ble_eq_true rfl) rfl ?_
  refine V_aload_n dX6_ifPlayed_0 rfl ?_
  refine V_bget dX6_ifPlayed_1 fX6_12 (by decide) rfl (by (try simp only [mset_s, mset_n, pk_us, pk_un, ne_eq, Nat.reduceEqDiff, Nat.reduceAdd, not_false_eq_true, not_true_eq_false]) <;> rfl) ?_
  refine V_bget dX6_ifPlayed_4 fX6_115 (by decide) rfl (by (try simp only [mset_s, mset_n, pk_us, pk_un, ne_eq, Nat.reduceEqDiff, Nat.reduceAdd, not_false_eq_true, not_true_eq_false]) <;> rfl) ?_
  refine V_iload_n dX6_ifPlayed_7 rfl ?_
  refine V_callVw dX6_ifPlayed_8 kX6_105 ykX3_holds (by decide) rfl rfl (tX3_holds (q := 10) (cnt := lc) stk1.sh9 h10 (by omega)) rfl (Nat.le_of_ble_eq_true rfl) ⟨by decide, by decide, by decide, by decide⟩ ?_
  refine V_if_ne dX6_ifPlayed_11 (fun _ => ?_) (fun z => absurd z ((bI_ne0.mpr (isIx_nI hn (by omega)))))
  refine V_iload_n dX6_ifPlayed_16 rfl ?_
  refine V_callSw dX6_ifPlayed_17 kX6_128 ykX6_isTurns (tX6_isTurns (nI T)) rfl (Nat.le_of_ble_eq_true rfl) ⟨by decide, by decide, by decide, by decide⟩ ?_
  refine V_if_eq dX6_ifPlayed_20 (fun z => absurd z (bI_ne0.mpr hTt)) (fun _ => ?_)
  refine V_iload_n dX6_ifPlayed_23 rfl ?_
  refine V_if_lt dX6_ifPlayed_24 (fun z => absurd z (fun z => by rw [i_lt] at z; omega)) (fun _ => ?_)
  refine V_iload_n dX6_ifPlayed_27 rfl ?_
  refine V_iconst (v := 4) dX6_ifPlayed_28 (by decide) ?_
  refine V_icmp_le dX6_ifPlayed_29 (fun _ => ?_) (fun z => absurd (by rw [i_le]; omega) z)
  have cp := tX2_copyFrom (G := G) (l := l) (sz := sz) (a := a) (C := C) (p := 2) (q := 102) stk1.ro rokR (by decide)
  have er : mset (mset C (102 + 1) (va_cpy (C (2 + 1)) (C (102 + 1)) 0 0 30)) 102 (upd (C 102) 0 (C 2 0)) = rhC C := rfl
  rw [er] at cp
  have ct := tX1_doTurns (G := G) (l := l) (sz := sz) (a := a) (C := rhC C) (q := 102) (p := 10) (W := 12) (N := 6) (n := n) (size := len) (T := T) (hd := hd) (c := rhF C) rokR stk1.sh9 (by decide) (by decide) (by decide) rhC_103 (by rw [rhC_102]; exact h0) hhd (by omega) (by rw [rhC_n (by decide) (by decide)]; exact hl) hlen (by omega)
  rw [shv_cg (C := C) (rhC_n (by decide) (by decide)), shn_cg (C := C) (rhC_n (by decide) (by decide)), sht_cg (C := C) (rhC_n (by decide) (by decide)), ← hP] at ct
  refine V_aload_n dX6_ifPlayed_35 rfl ?_
  refine V_bget dX6_ifPlayed_36 fX6_43 (by decide) rfl (by (try simp only [mset_s, mset_n, pk_us, pk_un, ne_eq, Nat.reduceEqDiff, Nat.reduceAdd, not_false_eq_true, not_true_eq_false]) <;> rfl) ?_
  refine V_aload_n dX6_ifPlayed_39 rfl ?_
  refine V_bget dX6_ifPlayed_40 fX6_12 (by decide) rfl (by (try simp only [mset_s, mset_n, pk_us, pk_un, ne_eq, Nat.reduceEqDiff, Nat.reduceAdd, not_false_eq_true, not_true_eq_false]) <;> rfl) ?_
  refine V_bget dX6_ifPlayed_43 fX6_88 (by decide) rfl (by (try simp only [mset_s, mset_n, pk_us, pk_un, ne_eq, Nat.reduceEqDiff, Nat.reduceAdd, not_false_eq_true, not_true_eq_false]) <;> rfl) ?_
  refine V_callVu dX6_ifPlayed_46 kX6_226 ykX2_copyFrom (by decide) rfl rfl cp rfl (Nat.le_of_ble_eq_true rfl) ⟨by decide, by decide, by decide, by decide⟩ ?_
  refine V_aload_n dX6_ifPlayed_49 rfl ?_
  refine V_bget dX6_ifPlayed_50 fX6_36 (by decide) rfl (by (try simp only [mset_s, mset_n, pk_us, pk_un, ne_eq, Nat.reduceEqDiff, Nat.reduceAdd, not_false_eq_true, not_true_eq_false]) <;> rfl) ?_
  refine V_aload_n dX6_ifPlayed_53 rfl ?_
  refine V_bget dX6_ifPlayed_54 fX6_43 (by decide) rfl (by (try simp only [mset_s, mset_n, pk_us, pk_un, ne_eq, Nat.reduceEqDiff, Nat.reduceAdd, not_false_eq_true, not_true_eq_false]) <;> rfl) ?_
  refine V_aload_n dX6_ifPlayed_57 rfl ?_
  refine V_bget dX6_ifPlayed_58 fX6_12 (by decide) rfl (by (try simp only [mset_s, mset_n, pk_us, pk_un, ne_eq, Nat.reduceEqDiff, Nat.reduceAdd, not_false_eq_true, not_true_eq_false]) <;> rfl) ?_
  refine V_bget dX6_ifPlayed_61 fX6_115 (by decide) rfl (by (try simp only [mset_s, mset_n, pk_us, pk_un, ne_eq, Nat.reduceEqDiff, Nat.reduceAdd, not_false_eq_true, not_true_eq_false]) <;> rfl) ?_
  refine V_iload_n dX6_ifPlayed_64 rfl ?_
  refine V_iload_n dX6_ifPlayed_65 rfl ?_
  refine V_callVu dX6_ifPlayed_66 kX6_229 ykX1_doTurns (by decide) rfl rfl ct rfl (Nat.le_of_ble_eq_true rfl) ⟨by decide, by decide, by decide, by decide⟩ ?_
  refine V_iload_n dX6_ifPlayed_69 rfl ?_
  have hh : 102 + 1 < 101 ∨ 101 < 102 := Or.inr (by decide)
  have p0 : plR (rhC C) 102 P.1 P.2 101 0 = P.1.2.2.1 := by rw [plR_p]; rfl
  have p1 : plR (rhC C) 102 P.1 P.2 101 1 = P.1.2.2.2 := by rw [plR_p]; rfl
  have p2 : plR (rhC C) 102 P.1 P.2 101 2 = P.2 := by rw [plR_p]; rfl
  have p3 : plR (rhC C) 102 P.1 P.2 103 = P.1.1 := plR_q1 (q := 102) hh
  have p4 : plR (rhC C) 102 P.1 P.2 102 0 = nI P.1.2.1 := by rw [plR_q hh]; rfl
  by_cases y0 : x3 = 0
  · refine V_tIn (tg := 100) dX6_ifPlayed_70 (by rw [y0]; decide) (by rw [y0]; decide) (by rw [y0]; rfl) rfl ?_
    refine V_aload_n dX6_ifPlayed_100 rfl ?_
    refine V_bget dX6_ifPlayed_101 fX6_36 (by decide) rfl (by (try simp only [mset_s, mset_n, pk_us, pk_un, ne_eq, Nat.reduceEqDiff, Nat.reduceAdd, not_false_eq_true, not_true_eq_false]) <;> rfl) ?_
    refine V_bget dX6_ifPlayed_104 fX6_233 (by decide) rfl (by (try simp only [mset_s, mset_n, pk_us, pk_un, ne_eq, Nat.reduceEqDiff, Nat.reduceAdd, not_false_eq_true, not_true_eq_false]) <;> rfl) ?_
    refine V_iret dX6_ifPlayed_107 rfl rfl rfl ?_
    exact Rs_i (by rw [if_pos y0]; exact p0) SC_rh
  by_cases y1 : x3 = 1
  · refine V_tIn (tg := 108) dX6_ifPlayed_70 (by rw [y1]; decide) (by rw [y1]; decide) (by rw [y1]; rfl) rfl ?_
    refine V_aload_n dX6_ifPlayed_108 rfl ?_
    refine V_bget dX6_ifPlayed_109 fX6_36 (by decide) rfl (by (try simp only [mset_s, mset_n, pk_us, pk_un, ne_eq, Nat.reduceEqDiff, Nat.reduceAdd, not_false_eq_true, not_true_eq_false]) <;> rfl) ?_
    refine V_bget dX6_ifPlayed_112 fX6_236 (by decide) rfl (by (try simp only [mset_s, mset_n, pk_us, pk_un, ne_eq, Nat.reduceEqDiff, Nat.reduceAdd, not_false_eq_true, not_true_eq_false]) <;> rfl) ?_
    refine V_iret dX6_ifPlayed_115 rfl rfl rfl ?_
    exact Rs_i (by rw [if_neg y0, if_pos y1]; exact p2) SC_rh
  by_cases y2 : x3 = 2
  · refine V_tIn (tg := 116) dX6_ifPlayed_70 (by rw [y2]; decide) (by rw [y2]; decide) (by rw [y2]; rfl) rfl ?_
    refine V_aload_n dX6_ifPlayed_116 rfl ?_
    refine V_bget dX6_ifPlayed_117 fX6_43 (by decide) rfl (by (try simp only [mset_s, mset_n, pk_us, pk_un, ne_eq, Nat.reduceEqDiff, Nat.reduceAdd, not_false_eq_true, not_true_eq_false]) <;> rfl) ?_
    refine V_callVw dX6_ifPlayed_120 kX6_194 ykX2_sum (by decide) rfl rfl (tX2_sum (q := 102) rokR) rfl (Nat.le_of_ble_eq_true rfl) ⟨by decide, by decide, by decide, by decide⟩ ?_
    refine V_iret dX6_ifPlayed_123 rfl rfl rfl ?_
    exact Rs_i (by rw [if_neg y0, if_neg y1, if_pos y2, show plR (rhC C) 102 P.1 P.2 (102 + 1) = P.1.1 from p3]) SC_rh
  by_cases y3 : x3 = 3
  · refine V_tIn (tg := 124) dX6_ifPlayed_70 (by rw [y3]; decide) (by rw [y3]; decide) (by rw [y3]; rfl) rfl ?_
    refine V_aload_n dX6_ifPlayed_124 rfl ?_
    refine V_bget dX6_ifPlayed_125 fX6_43 (by decide) rfl (by (try simp only [mset_s, mset_n, pk_us, pk_un, ne_eq, Nat.reduceEqDiff, Nat.reduceAdd, not_false_eq_true, not_true_eq_false]) <;> rfl) ?_
    refine V_bget dX6_ifPlayed_128 fX6_191 (by decide) rfl (by (try simp only [mset_s, mset_n, pk_us, pk_un, ne_eq, Nat.reduceEqDiff, Nat.reduceAdd, not_false_eq_true, not_true_eq_false]) <;> rfl) ?_
    refine V_iret dX6_ifPlayed_131 rfl rfl rfl ?_
    exact Rs_i (by rw [if_neg y0, if_neg y1, if_neg y2, if_pos y3]; exact p4) SC_rh
  · refine V_tOut (tg := 132) dX6_ifPlayed_70 (sw_out (n := 4) (by decide) (by decide) (fun i hi z => ?_)) rfl ?_
    · rcases (show i = 0 ∨ i = 1 ∨ i = 2 ∨ i = 3 by omega) with w | w | w | w <;> rw [w] at z
      · exact y0 z
      · exact y1 z
      · exact y2 z
      · exact y3 z
    refine V_aload_n dX6_ifPlayed_132 rfl ?_
    refine V_bget dX6_ifPlayed_133 fX6_36 (by decide) rfl (by (try simp only [mset_s, mset_n, pk_us, pk_un, ne_eq, Nat.reduceEqDiff, Nat.reduceAdd, not_false_eq_true, not_true_eq_false]) <;> rfl) ?_
    refine V_bget dX6_ifPlayed_136 fX6_239 (by decide) rfl (by (try simp only [mset_s, mset_n, pk_us, pk_un, ne_eq, Nat.reduceEqDiff, Nat.reduceAdd, not_false_eq_true, not_true_eq_false]) <;> rfl) ?_
    refine V_iret dX6_ifPlayed_139 rfl rfl rfl ?_
    exact Rs_i (by rw [if_neg y0, if_neg y1, if_neg y2, if_neg y3]; exact p1) SC_rh
theorem tX6_fewestTurns_o {lc : Nat} (x1 x2 x3 : Int32) (h10 : C 10 0 = nI lc) (hlc : lc ≤ 6) (hx : ¬ (isIx x1 lc ∧ isIx x2 30)) : Ct G l yX6_fewestTurns cX6_fewestTurns 6 (some .int) 4 0 0 sz [.ref a, .int x1, .int x2, .int x3] (B G a C) (Rw G a (.int (-1)) C) := by
  refine Ct.of (own := RX6) (mn := "fewestTurns") (L0 := [some (.ref (a + 0)), some (.int x1), some (.int x2), some (.int x3), none, none]) (by decide +kernel) rfl rfl rfl (Nat.le_of_ble_eq_true rfl) rfl ?_
  refine V_aload_n dX6_fewestTurns_0 rfl ?_
  refine V_bget dX6_fewestTurns_1 fX6_12 (by decide) rfl (by (try simp only [mset_s, mset_n, pk_us, pk_un, ne_eq, Nat.reduceEqDiff, Nat.reduceAdd, not_false_eq_true, not_true_eq_false]) <;> rfl) ?_
  refine V_bget dX6_fewestTurns_4 fX6_115 (by decide) rfl (by (try simp only [mset_s, mset_n, pk_us, pk_un, ne_eq, Nat.reduceEqDiff, Nat.reduceAdd, not_false_eq_true, not_true_eq_false]) <;> rfl) ?_
  refine V_iload_n dX6_fewestTurns_7 rfl ?_
  refine V_callVw dX6_fewestTurns_8 kX6_105 ykX3_holds (by decide) rfl rfl (tX3_holds (q := 10) (cnt := lc) stk1.sh9 h10 (by omega)) rfl (Nat.le_of_ble_eq_true rfl) ⟨by decide, by decide, by decide, by decide⟩ ?_
  by_cases h1 : isIx x1 lc
  · refine V_if_eq dX6_fewestTurns_11 (fun z => absurd z (bI_ne0.mpr h1)) (fun _ => ?_)
    refine V_iload_n dX6_fewestTurns_14 rfl ?_
    refine V_callSw dX6_fewestTurns_15 kX6_175 ykX6_isCell (tX6_isCell x2) rfl (Nat.le_of_ble_eq_true rfl) ⟨by decide, by decide, by decide, by decide⟩ ?_
    refine V_if_ne dX6_fewestTurns_18 (fun z => absurd z (fun z => z (bI_f (fun w => hx ⟨h1, w⟩)))) (fun _ => ?_)
    refine V_iconst (v := (-1)) dX6_fewestTurns_21 (by decide) ?_
    refine V_iret dX6_fewestTurns_22 rfl rfl rfl ?_
    exact Rw_i rfl rfl
  · refine V_if_eq dX6_fewestTurns_11 (fun _ => ?_) (fun z => absurd (bI_f h1) z)
    refine V_iconst (v := (-1)) dX6_fewestTurns_21 (by decide) ?_
    refine V_iret dX6_fewestTurns_22 rfl rfl rfl ?_
    exact Rw_i rfl rfl
theorem tX6_fewestTurns_r {lc n cl : Nat} (x3 : Int32) (h10 : C 10 0 = nI lc) (hlc : lc ≤ 6) (hn : n < lc) (hcl : cl < 30) (hx : ¬ (0 ≤ x3 ∧ x3 ≤ 99)) : Ct G l yX6_fewestTurns cX6_fewestTurns 6 (some .int) 4 0 0 sz [.ref a, .int (nI n), .int (nI cl), .int x3] (B G a C) (Rw G a (.int (-2)) C) := by
  refine Ct.of (own := RX6) (mn := "fewestTurns") (L0 := [some (.ref (a + 0)), some (.int (nI n)), some (.int (nI cl)), some (.int x3), none, none]) (by decide +kernel) rfl rfl rfl (Nat.le_of_ble_eq_true rfl) rfl ?_
  refine V_aload_n dX6_fewestTurns_0 rfl ?_
  refine V_bget dX6_fewestTurns_1 fX6_12 (by decide) rfl (by (try simp only [mset_s, mset_n, pk_us, pk_un, ne_eq, Nat.reduceEqDiff, Nat.reduceAdd, not_false_eq_true, not_true_eq_false]) <;> rfl) ?_
  refine V_bget dX6_fewestTurns_4 fX6_115 (by decide) rfl (by (try simp only [mset_s, mset_n, pk_us, pk_un, ne_eq, Nat.reduceEqDiff, Nat.reduceAdd, not_false_eq_true, not_true_eq_false]) <;> rfl) ?_
  refine V_iload_n dX6_fewestTurns_7 rfl ?_
  refine V_callVw dX6_fewestTurns_8 kX6_105 ykX3_holds (by decide) rfl rfl (tX3_holds (q := 10) (cnt := lc) stk1.sh9 h10 (by omega)) rfl (Nat.le_of_ble_eq_true rfl) ⟨by decide, by decide, by decide, by decide⟩ ?_
  refine V_if_eq dX6_fewestTurns_11 (fun z => absurd z (bI_ne0.mpr (isIx_nI hn (by omega)))) (fun _ => ?_)
  refine V_iload_n dX6_fewestTurns_14 rfl ?_
  refine V_callSw dX6_fewestTurns_15 kX6_175 ykX6_isCell (tX6_isCell (nI cl)) rfl (Nat.le_of_ble_eq_true rfl) ⟨by decide, by decide, by decide, by decide⟩ ?_
  refine V_if_ne dX6_fewestTurns_18 (fun _ => ?_) (fun z => absurd z ((bI_ne0.mpr (isIx_nI hcl (by omega)))))
  refine V_iload_n dX6_fewestTurns_23 rfl ?_
  refine V_if_lt dX6_fewestTurns_24 (fun c24 => ?_) (fun c24 => ?_)
  · refine V_bipush (v := (-2)) dX6_fewestTurns_33 (by decide) ?_
    refine V_iret dX6_fewestTurns_35 rfl rfl rfl ?_
    exact Rw_i rfl rfl
  · refine V_iload_n dX6_fewestTurns_27 rfl ?_
    refine V_bipush (v := 100) dX6_fewestTurns_28 (by decide) ?_
    refine V_icmp_lt dX6_fewestTurns_30 (fun c30 => ?_) (fun c30 => ?_)
    · exact absurd (by rw [i_le, i_le]; rw [i_lt] at c24 c30; exact ⟨by omega, by have z1 : (99 : Int32).toInt = 99 := rfl; have z2 : (100 : Int32).toInt = 100 := rfl; omega⟩) hx
    · refine V_bipush (v := (-2)) dX6_fewestTurns_33 (by decide) ?_
      refine V_iret dX6_fewestTurns_35 rfl rfl rfl ?_
      exact Rw_i rfl rfl
set_option maxHeartbeats 4000000 in
theorem tX6_fewestTurns {lc n len cl hd : Nat} (x3 : Int32) (h10 : C 10 0 = nI lc) (hlc : lc ≤ 6) (hn : n < lc) (hl : C 14 n = nI len) (hlen : len ≤ 12) (hcl : cl < 30) (hx : 0 ≤ x3 ∧ x3 ≤ 99) (h0 : C 2 0 = nI hd) (hhd : hd < 30) : Ct G l yX6_fewestTurns cX6_fewestTurns 6 (some .int) 4 0 0 sz [.ref a, .int (nI n), .int (nI cl), .int x3] (B G a C) (Rs G a (.int (fewF (shv C 10 12 n) (shn C 10 12 n) (sht C 10 12 n) len cl x3 99 0 (rhF C, hd, 0, 0))) C) := by
  have hx1 := hx.1
  have hx2 := hx.2
  rw [i_le] at hx1 hx2
  have z0 : (0 : Int32).toInt = 0 := rfl
  have z9 : (99 : Int32).toInt = 99 := rfl
  have z10 : (100 : Int32).toInt = 100 := rfl
  have hh : 102 + 1 < 101 ∨ 101 < 102 := Or.inr (by decide)
  refine Ct.of (own := RX6) (mn := "fewestTurns") (L0 := [some (.ref (a + 0)), some (.int (nI n)), some (.int (nI cl)), some (.int x3), none, none]) (by decide +kernel) rfl rfl rfl (Nat.le_of_ble_eq_true rfl) rfl ?_
  refine V_aload_n dX6_fewestTurns_0 rfl ?_
  refine V_bget dX6_fewestTurns_1 fX6_12 (by decide) rfl (by (try simp only [mset_s, mset_n, pk_us, pk_un, ne_eq, Nat.reduceEqDiff, Nat.reduceAdd, not_false_eq_true, not_true_eq_false]) <;> rfl) ?_
  refine V_bget dX6_fewestTurns_4 fX6_115 (by decide) rfl (by (try simp only [mset_s, mset_n, pk_us, pk_un, ne_eq, Nat.reduceEqDiff, Nat.reduceAdd, not_false_eq_true, not_true_eq_false]) <;> rfl) ?_
  refine V_iload_n dX6_fewestTurns_7 rfl ?_
  refine V_callVw dX6_fewestTurns_8 kX6_105 ykX3_holds (by decide) rfl rfl (tX3_holds (q := 10) (cnt := lc) stk1.sh9 h10 (by omega)) rfl (Nat.le_of_ble_eq_true rfl) ⟨by decide, by decide, by decide, by decide⟩ ?_
  refine V_if_eq dX6_fewestTurns_11 (fun z => absurd z (bI_ne0.mpr (isIx_nI hn (by omega)))) (fun _ => ?_)
  refine V_iload_n dX6_fewestTurns_14 rfl ?_
  refine V_callSw dX6_fewestTurns_15 kX6_175 ykX6_isCell (tX6_isCell (nI cl)) rfl (Nat.le_of_ble_eq_true rfl) ⟨by decide, by decide, by decide, by decide⟩ ?_
  refine V_if_ne dX6_fewestTurns_18 (fun _ => ?_) (fun z => absurd z ((bI_ne0.mpr (isIx_nI hcl (by omega)))))
  refine V_iload_n dX6_fewestTurns_23 rfl ?_
  refine V_if_lt dX6_fewestTurns_24 (fun z => absurd z (fun z => by rw [i_lt] at z; omega)) (fun _ => ?_)
  refine V_iload_n dX6_fewestTurns_27 rfl ?_
  refine V_bipush (v := 100) dX6_fewestTurns_28 (by decide) ?_
  refine V_icmp_lt dX6_fewestTurns_30 (fun _ => ?_) (fun z => absurd (by rw [i_lt]; omega) z)
  have cp := tX2_copyFrom (G := G) (l := l) (sz := sz) (a := a) (C := C) (p := 2) (q := 102) stk1.ro rokR (by decide)
  have er : mset (mset C (102 + 1) (va_cpy (C (2 + 1)) (C (102 + 1)) 0 0 30)) 102 (upd (C 102) 0 (C 2 0)) = rhC C := rfl
  rw [er] at cp
  have e0 : mset (rhC C) 101 (upd (upd (upd (rhC C 101) 0 0) 1 0) 2 0) = plR (rhC C) 102 (rhF C, hd, 0, 0) 0 := by
    refine ct_ext3 (q := 102) ?_ ?_ ?_ (fun i a1 a2 a3 => ?_)
    · rw [mset_n (by decide), plR_q hh, ← h0, ← rhC_102 (C := C), u_eta]
    · rw [mset_n (by decide), plR_q1 hh, show rhC C (102 + 1) = rhF C from rhC_103]
    · rw [mset_s, plR_p]
    · rw [mset_n a3, plR_n a1 a2 a3]
  refine V_aload_n dX6_fewestTurns_36 rfl ?_
  refine V_bget dX6_fewestTurns_37 fX6_43 (by decide) rfl (by (try simp only [mset_s, mset_n, pk_us, pk_un, ne_eq, Nat.reduceEqDiff, Nat.reduceAdd, not_false_eq_true, not_true_eq_false]) <;> rfl) ?_
  refine V_aload_n dX6_fewestTurns_40 rfl ?_
  refine V_bget dX6_fewestTurns_41 fX6_12 (by decide) rfl (by (try simp only [mset_s, mset_n, pk_us, pk_un, ne_eq, Nat.reduceEqDiff, Nat.reduceAdd, not_false_eq_true, not_true_eq_false]) <;> rfl) ?_
  refine V_bget dX6_fewestTurns_44 fX6_88 (by decide) rfl (by (try simp only [mset_s, mset_n, pk_us, pk_un, ne_eq, Nat.reduceEqDiff, Nat.reduceAdd, not_false_eq_true, not_true_eq_false]) <;> rfl) ?_
  refine V_callVu dX6_fewestTurns_47 kX6_226 ykX2_copyFrom (by decide) rfl rfl cp rfl (Nat.le_of_ble_eq_true rfl) ⟨by decide, by decide, by decide, by decide⟩ ?_
  refine V_aload_n dX6_fewestTurns_50 rfl ?_
  refine V_bget dX6_fewestTurns_51 fX6_36 (by decide) rfl (by (try simp only [mset_s, mset_n, pk_us, pk_un, ne_eq, Nat.reduceEqDiff, Nat.reduceAdd, not_false_eq_true, not_true_eq_false]) <;> rfl) ?_
  refine V_callVu dX6_fewestTurns_54 kX6_242 ykX1_begin (by decide) rfl rfl tX1_begin rfl (Nat.le_of_ble_eq_true rfl) ⟨by decide, by decide, by decide, by decide⟩ ?_
  rw [e0]
  refine V_iconst (v := 1) dX6_fewestTurns_57 (by decide) ?_
  refine V_istore dX6_fewestTurns_58 (by decide) (by dsimp only [List.set] <;> rfl) rfl ?_
  refine V_iconst (v := 0) dX6_fewestTurns_60 (by decide) ?_
  refine V_istore dX6_fewestTurns_61 (by decide) (by dsimp only [List.set] <;> rfl) rfl ?_
  have key : ∀ (m t : Nat) (s : PS), t + m = 99 → s.2.1 < 30 → fewF (shv C 10 12 n) (shn C 10 12 n) (sht C 10 12 n) len cl x3 99 0 (rhF C, hd, 0, 0) = fewF (shv C 10 12 n) (shn C 10 12 n) (sht C 10 12 n) len cl x3 m t s → V G l RX6 "fewestTurns" cX6_fewestTurns 6 (some .int) (rmd 4 0 0) E0 (Qm G (Rs G a (.int (fewF (shv C 10 12 n) (shn C 10 12 n) (sht C 10 12 n) len cl x3 99 0 (rhF C, hd, 0, 0))) C) sz 0 0) sz 0 0 63 [some (.ref (a + 0)), some (.int (nI n)), some (.int (nI cl)), some (.int x3), some (.int 1), some (.int (nI t))] [] (B G a (plR (rhC C) 102 s 0)) := by
    intro m
    induction m with
    | zero =>
      intro t s ht h30 he
      obtain rfl : t = 99 := by omega
      refine V_iload dX6_fewestTurns_63 rfl ?_
      refine V_if_eq dX6_fewestTurns_65 (fun z => absurd z (by decide)) (fun _ => ?_)
      refine V_iload dX6_fewestTurns_68 rfl ?_
      refine V_bipush (v := 99) dX6_fewestTurns_70 (by decide) ?_
      refine V_icmp_ge dX6_fewestTurns_72 (fun _ => ?_) (fun z => absurd ((cle (by repeat (first | with_reducible rfl | with_reducible exact nlit | with_reducible apply nadd | with_reducible apply nmul | with_reducible apply nsub | with_reducible assumption | omega)) (by repeat (first | with_reducible rfl | with_reducible exact nlit | with_reducible apply nadd | with_reducible apply nmul | with_reducible apply nsub | with_reducible assumption | omega)) (by omega) (by omega)).mpr (by omega)) z)
      refine V_bipush (v := (-5)) dX6_fewestTurns_121 (by decide) ?_
      refine V_iret dX6_fewestTurns_123 rfl rfl rfl ?_
      exact Rs_i (by rw [he]; rfl) SC_rh
    | succ m ih =>
      intro t s ht h30 he
      have ht2 := plTurn_hd (bv := shv C 10 12 n) (bn := shn C 10 12 n) (bs := sht C 10 12 n) (r := nI t) len 0 s h30
      have ct := tX1_doTurn (G := G) (l := l) (sz := sz + 0) (a := a) (C := rhC C) (q := 102) (p := 10) (W := 12) (N := 6) (n := n) (size := len) (s := s) (r := nI t) rokR stk1.sh9 (by decide) (by decide) (by decide) h30 (by omega) (by rw [rhC_n (by decide) (by decide)]; exact hl) hlen
      rw [shv_cg (C := C) (rhC_n (by decide) (by decide)), shn_cg (C := C) (rhC_n (by decide) (by decide)), sht_cg (C := C) (rhC_n (by decide) (by decide))] at ct
      rw [fewF_s (m := m)] at he
      generalize plTurn (shv C 10 12 n) (shn C 10 12 n) (sht C 10 12 n) (nI t) len 0 s = P at ct he ht2
      refine V_iload dX6_fewestTurns_63 rfl ?_
      refine V_if_eq dX6_fewestTurns_65 (fun z => absurd z (by decide)) (fun _ => ?_)
      refine V_iload dX6_fewestTurns_68 rfl ?_
      refine V_bipush (v := 99) dX6_fewestTurns_70 (by decide) ?_
      refine V_icmp_ge dX6_fewestTurns_72 (fun z => absurd z (fun z => absurd ((cle (by repeat (first | with_reducible rfl | with_reducible exact nlit | with_reducible apply nadd | with_reducible apply nmul | with_reducible apply nsub | with_reducible assumption | omega)) (by repeat (first | with_reducible rfl | with_reducible exact nlit | with_reducible apply nadd | with_reducible apply nmul | with_reducible apply nsub | with_reducible assumption | omega)) (by omega) (by omega)).mp z) (by omega))) (fun _ => ?_)
      refine V_aload_n dX6_fewestTurns_75 rfl ?_
      refine V_bget dX6_fewestTurns_76 fX6_36 (by decide) rfl (by (try simp only [mset_s, mset_n, pk_us, pk_un, ne_eq, Nat.reduceEqDiff, Nat.reduceAdd, not_false_eq_true, not_true_eq_false]) <;> rfl) ?_
      refine V_aload_n dX6_fewestTurns_79 rfl ?_
      refine V_bget dX6_fewestTurns_80 fX6_43 (by decide) rfl (by (try simp only [mset_s, mset_n, pk_us, pk_un, ne_eq, Nat.reduceEqDiff, Nat.reduceAdd, not_false_eq_true, not_true_eq_false]) <;> rfl) ?_
      refine V_aload_n dX6_fewestTurns_83 rfl ?_
      refine V_bget dX6_fewestTurns_84 fX6_12 (by decide) rfl (by (try simp only [mset_s, mset_n, pk_us, pk_un, ne_eq, Nat.reduceEqDiff, Nat.reduceAdd, not_false_eq_true, not_true_eq_false]) <;> rfl) ?_
      refine V_bget dX6_fewestTurns_87 fX6_115 (by decide) rfl (by (try simp only [mset_s, mset_n, pk_us, pk_un, ne_eq, Nat.reduceEqDiff, Nat.reduceAdd, not_false_eq_true, not_true_eq_false]) <;> rfl) ?_
      refine V_iload_n dX6_fewestTurns_90 rfl ?_
      refine V_iload dX6_fewestTurns_91 rfl ?_
      refine V_callVw dX6_fewestTurns_93 kX6_245 ykX1_doTurn (by decide) rfl rfl ct rfl (Nat.le_of_ble_eq_true rfl) ⟨by decide, by decide, by decide, by decide⟩ ?_
      refine V_istore dX6_fewestTurns_96 (by decide) (by dsimp only [List.set] <;> rfl) rfl ?_
      refine V_aload_n dX6_fewestTurns_98 rfl ?_
      refine V_bget dX6_fewestTurns_99 fX6_43 (by decide) rfl (by (try simp only [mset_s, mset_n, pk_us, pk_un, ne_eq, Nat.reduceEqDiff, Nat.reduceAdd, not_false_eq_true, not_true_eq_false]) <;> rfl) ?_
      refine V_iload_n dX6_fewestTurns_102 rfl ?_
      refine V_callVw dX6_fewestTurns_103 kX6_178 ykX2_valueAt (by decide) rfl rfl (tX2_valueAt (q := 102) rokR hcl) rfl (Nat.le_of_ble_eq_true rfl) ⟨by decide, by decide, by decide, by decide⟩ ?_
      rw [show plR (rhC C) 102 P.1 P.2 (102 + 1) cl = P.1.1 cl from by rw [plR_q1 hh]]
      refine V_iload_n dX6_fewestTurns_106 rfl ?_
      by_cases hv : P.1.1 cl = x3
      · refine V_icmp_ne dX6_fewestTurns_107 (fun z => absurd z (fun q => q hv)) (fun _ => ?_)
        refine V_iload dX6_fewestTurns_110 rfl ?_
        refine V_iconst (v := 1) dX6_fewestTurns_112 (by decide) ?_
        refine V_iadd dX6_fewestTurns_113 ?_
        refine V_iret dX6_fewestTurns_114 rfl rfl rfl ?_
        refine Rs_i ?_ SC_rh
        rw [he, if_pos hv, nadd rfl (nlit (n := 1))]
      · refine V_icmp_ne dX6_fewestTurns_107 (fun _ => ?_) (fun z => absurd z hv)
        refine V_iinc dX6_fewestTurns_115 rfl (ninc _) (by decide) (by dsimp only [List.set] <;> rfl) ?_
        refine V_goto dX6_fewestTurns_118 ?_
        rw [if_neg hv] at he
        by_cases h2 : P.2 = 0
        · rw [if_pos h2] at he
          rw [bI_t h2, h2]
          exact ih (t + 1) _ (by omega) ht2 he
        · rw [if_neg h2] at he
          rw [bI_f h2]
          refine V_iload dX6_fewestTurns_63 rfl ?_
          refine V_if_eq dX6_fewestTurns_65 (fun _ => ?_) (fun z => absurd rfl z)
          refine V_bipush (v := (-5)) dX6_fewestTurns_121 (by decide) ?_
          refine V_iret dX6_fewestTurns_123 rfl rfl rfl ?_
          exact Rs_i (by rw [he]) SC_rh
  exact key 99 0 _ (by omega) hhd rfl
end CLS
