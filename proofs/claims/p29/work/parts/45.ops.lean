/-! TryLoops: step, record, end, dropTry, setTurns, dropLoop, type, clearText, undo, keep, restore. -/
/-- behind a push: v is answered, and the world is F of what the push left -/
def Rp (G : GT) (a : Nat) (v : Value) (C : CT) (n : Nat) (F : CT → CT) : Option Value → Hp → Prop := fun r h' => ∃ C1, r = some v ∧ h' = B G a (F C1) ∧ Pu C n C1
theorem Rp_i {G : GT} {a n : Nat} {x0 y0 : Int32} {C C1 C2 : CT} {F : CT → CT} (e : x0 = y0) (e2 : C2 = F C1) (h : Pu C n C1) : Rp G a (.int y0) C n F (some (.int x0)) (B G a C2) := ⟨C1, by rw [e], by rw [e2], h⟩
section CLS
variable {G : GT} {l : Launch} {sz a : Nat} {C : CT}
theorem tX6_isVerb (v : Int32) {h : Hp} : Ct G l yX6_isVerb cX6_isVerb 1 (some .boolean) 0 0 0 sz [.int v] h (Rd (.int (bI (0 ≤ v ∧ v ≤ 5))) h) := by
  refine Ct.of (own := RX6) (mn := "isVerb") (L0 := [some (.int v)]) (by decide +kernel) rfl rfl rfl (Nat.le_of_ble_eq_true rfl) rfl ?_
  refine V_iload_n dX6_isVerb_0 rfl ?_
  refine V_if_lt dX6_isVerb_1 (fun c1 => ?_) (fun c1 => ?_)
  · refine V_iconst (v := 0) dX6_isVerb_13 (by decide) ?_
    refine V_zret dX6_isVerb_14 rfl (by first | rfl | exact bI_nar) rfl rfl ?_
    exact Rd_i (bI_f (fun z => by have z1 := z.1; rw [i_le] at z1; rw [i_lt] at c1; omega)).symm
  · refine V_iload_n dX6_isVerb_4 rfl ?_
    refine V_iconst (v := 5) dX6_isVerb_5 (by decide) ?_
    refine V_icmp_gt dX6_isVerb_6 (fun c6 => ?_) (fun c6 => ?_)
    · refine V_iconst (v := 0) dX6_isVerb_13 (by decide) ?_
      refine V_zret dX6_isVerb_14 rfl (by first | rfl | exact bI_nar) rfl rfl ?_
      exact Rd_i (bI_f (fun z => by have z1 := z.2; rw [i_le] at z1; rw [i_lt] at c6; omega)).symm
    · refine V_iconst (v := 1) dX6_isVerb_9 (by decide) ?_
      refine V_goto dX6_isVerb_10 ?_
      refine V_zret dX6_isVerb_14 rfl (by first | rfl | exact bI_nar) rfl rfl ?_
      exact Rd_i (bI_t (by rw [i_le, i_le]; rw [i_lt] at c1 c6; omega)).symm
theorem tX6_isTurns (v : Int32) {h : Hp} : Ct G l yX6_isTurns cX6_isTurns 1 (some .boolean) 0 0 0 sz [.int v] h (Rd (.int (bI (1 ≤ v ∧ v ≤ 99))) h) := by
  refine Ct.of (own := RX6) (mn := "isTurns") (L0 := [some (.int v)]) (by decide +kernel) rfl rfl rfl (Nat.le_of_ble_eq_true rfl) rfl ?_
  refine V_iload_n dX6_isTurns_0 rfl ?_
  refine V_iconst (v := 1) dX6_isTurns_1 (by decide) ?_
  refine V_icmp_lt dX6_isTurns_2 (fun c2 => ?_) (fun c2 => ?_)
  · refine V_iconst (v := 0) dX6_isTurns_15 (by decide) ?_
    refine V_zret dX6_isTurns_16 rfl (by first | rfl | exact bI_nar) rfl rfl ?_
    exact Rd_i (bI_f (fun z => by have z1 := z.1; rw [i_le] at z1; rw [i_lt] at c2; omega)).symm
  · refine V_iload_n dX6_isTurns_5 rfl ?_
    refine V_bipush (v := 99) dX6_isTurns_6 (by decide) ?_
    refine V_icmp_gt dX6_isTurns_8 (fun c8 => ?_) (fun c8 => ?_)
    · refine V_iconst (v := 0) dX6_isTurns_15 (by decide) ?_
      refine V_zret dX6_isTurns_16 rfl (by first | rfl | exact bI_nar) rfl rfl ?_
      exact Rd_i (bI_f (fun z => by have z1 := z.2; rw [i_le] at z1; rw [i_lt] at c8; omega)).symm
    · refine V_iconst (v := 1) dX6_isTurns_11 (by decide) ?_
      refine V_goto dX6_isTurns_12 ?_
      refine V_zret dX6_isTurns_16 rfl (by first | rfl | exact bI_nar) rfl rfl ?_
      exact Rd_i (bI_t (by rw [i_le, i_le]; rw [i_lt] at c2 c8; omega)).symm
theorem tX6_isCell (v : Int32) {h : Hp} : Ct G l yX6_isCell cX6_isCell 1 (some .boolean) 0 0 0 sz [.int v] h (Rd (.int (bI (isIx v 30))) h) := by
  have e := isIx_nl (x := v) (n := 30) (by decide)
  refine Ct.of (own := RX6) (mn := "isCell") (L0 := [some (.int v)]) (by decide +kernel) rfl rfl rfl (Nat.le_of_ble_eq_true rfl) rfl ?_
  refine V_iload_n dX6_isCell_0 rfl ?_
  refine V_if_lt dX6_isCell_1 (fun c1 => ?_) (fun c1 => ?_)
  · refine V_iconst (v := 0) dX6_isCell_14 (by decide) ?_
    refine V_zret dX6_isCell_15 rfl (by first | rfl | exact bI_nar) rfl rfl ?_
    exact Rd_i (bI_f (fun z => (e.mp z).1 c1)).symm
  · refine V_iload_n dX6_isCell_4 rfl ?_
    refine V_bipush (v := 30) dX6_isCell_5 (by decide) ?_
    refine V_icmp_ge dX6_isCell_7 (fun c7 => ?_) (fun c7 => ?_)
    · refine V_iconst (v := 0) dX6_isCell_14 (by decide) ?_
      refine V_zret dX6_isCell_15 rfl (by first | rfl | exact bI_nar) rfl rfl ?_
      exact Rd_i (bI_f (fun z => (e.mp z).2 c7)).symm
    · refine V_iconst (v := 1) dX6_isCell_10 (by decide) ?_
      refine V_goto dX6_isCell_11 ?_
      refine V_zret dX6_isCell_15 rfl (by first | rfl | exact bI_nar) rfl rfl ?_
      exact Rd_i (bI_t (e.mpr ⟨c1, c7⟩)).symm
theorem tX6_cell (v : Int32) : Ct G l yX6_cell cX6_cell 2 (some .int) 1 0 0 sz [.ref a, .int v] (B G a C) (Rw G a (.int (if isIx v 30 then C 3 v.toInt.toNat else -1)) C) := by
  refine Ct.of (own := RX6) (mn := "cell") (L0 := [some (.ref (a + 0)), some (.int v)]) (by decide +kernel) rfl rfl rfl (Nat.le_of_ble_eq_true rfl) rfl ?_
  refine V_iload_n dX6_cell_0 rfl ?_
  refine V_callSw dX6_cell_1 kX6_175 ykX6_isCell (tX6_isCell v) rfl (Nat.le_of_ble_eq_true rfl) ⟨by decide, by decide, by decide, by decide⟩ ?_
  by_cases h : isIx v 30
  · refine V_if_eq dX6_cell_4 (fun z => absurd z (bI_ne0.mpr h)) (fun _ => ?_)
    refine V_aload_n dX6_cell_7 rfl ?_
    refine V_bget dX6_cell_8 fX6_12 (by decide) rfl (by (try simp only [mset_s, mset_n, pk_us, pk_un, ne_eq, Nat.reduceEqDiff, Nat.reduceAdd, not_false_eq_true, not_true_eq_false]) <;> rfl) ?_
    refine V_bget dX6_cell_11 fX6_88 (by decide) rfl (by (try simp only [mset_s, mset_n, pk_us, pk_un, ne_eq, Nat.reduceEqDiff, Nat.reduceAdd, not_false_eq_true, not_true_eq_false]) <;> rfl) ?_
    have e := nI_ex h.1
    have h2 := h.2
    refine V_iload_n dX6_cell_14 rfl ?_
    rw [show V G l = V G l from rfl]
    refine V_toe e ?_
    refine V_callVw dX6_cell_15 kX6_178 ykX2_valueAt (by decide) rfl rfl (tX2_valueAt (q := 2) stk1.ro (by omega)) rfl (Nat.le_of_ble_eq_true rfl) ⟨by decide, by decide, by decide, by decide⟩ ?_
    refine V_goto dX6_cell_18 ?_
    refine V_iret dX6_cell_22 rfl rfl rfl ?_
    exact Rw_i (by rw [if_pos h]) rfl
  · refine V_if_eq dX6_cell_4 (fun _ => ?_) (fun z => absurd (bI_f h) z)
    refine V_iconst (v := (-1)) dX6_cell_21 (by decide) ?_
    refine V_iret dX6_cell_22 rfl rfl rfl ?_
    exact Rw_i (by rw [if_neg h]) rfl
/-- the class's state after a step that is done -/
def stC (C : CT) (tc len hd : Nat) (v : Int32) (m : Nat) : CT := if C 1 0 = 1 ∧ len < 12 then apS (obC C hd v m) 4 12 tc len v (nI m) 0 else obC C hd v m
theorem tX6_step_v (v x0 : Int32) (hv : ¬ (0 ≤ v ∧ v ≤ 5)) : Ct G l yX6_step cX6_step 4 (some .int) 5 0 0 sz [.ref a, .int v, .int x0] (B G a C) (Rw G a (.int (-1)) C) := by
  refine Ct.of (own := RX6) (mn := "step") (L0 := [some (.ref (a + 0)), some (.int v), some (.int x0), none]) (by decide +kernel) rfl rfl rfl (Nat.le_of_ble_eq_true rfl) rfl ?_
  refine V_iload_n dX6_step_0 rfl ?_
  refine V_callSw dX6_step_1 kX6_51 ykX6_isVerb (tX6_isVerb v) rfl (Nat.le_of_ble_eq_true rfl) ⟨by decide, by decide, by decide, by decide⟩ ?_
  refine V_if_ne dX6_step_4 (fun z => absurd z (fun z => z (bI_f hv))) (fun _ => ?_)
  refine V_iconst (v := (-1)) dX6_step_7 (by decide) ?_
  refine V_iret dX6_step_8 rfl rfl rfl ?_
  exact Rw_i rfl rfl
theorem tX6_step_r (v x0 : Int32) (hv : 0 ≤ v ∧ v ≤ 5) (hx : ¬ inR v x0) : Ct G l yX6_step cX6_step 4 (some .int) 5 0 0 sz [.ref a, .int v, .int x0] (B G a C) (Rw G a (.int (-2)) C) := by
  refine Ct.of (own := RX6) (mn := "step") (L0 := [some (.ref (a + 0)), some (.int v), some (.int x0), none]) (by decide +kernel) rfl rfl rfl (Nat.le_of_ble_eq_true rfl) rfl ?_
  refine V_iload_n dX6_step_0 rfl ?_
  refine V_callSw dX6_step_1 kX6_51 ykX6_isVerb (tX6_isVerb v) rfl (Nat.le_of_ble_eq_true rfl) ⟨by decide, by decide, by decide, by decide⟩ ?_
  refine V_if_ne dX6_step_4 (fun _ => ?_) (fun z => absurd z ((bI_ne0.mpr hv)))
  refine V_iload_n dX6_step_9 rfl ?_
  refine V_iload_n dX6_step_10 rfl ?_
  refine V_callSw dX6_step_11 kX6_55 ykX6_inRange (tX6_inRange v x0) rfl (Nat.le_of_ble_eq_true rfl) ⟨by decide, by decide, by decide, by decide⟩ ?_
  refine V_if_ne dX6_step_14 (fun z => absurd z (fun z => z (bI_f hx))) (fun _ => ?_)
  refine V_bipush (v := (-2)) dX6_step_17 (by decide) ?_
  refine V_iret dX6_step_19 rfl rfl rfl ?_
  exact Rw_i rfl rfl
theorem tX6_step_f {tc len : Nat} (v x0 : Int32) (hv : 0 ≤ v ∧ v ≤ 5) (hx : inR v x0) (ho : C 1 0 = 1) (h4 : C 4 0 = nI tc) (htc : tc < 6) (hl : C 8 tc = nI len) (hlen : 12 ≤ len) (hlen2 : len < 100) : Ct G l yX6_step cX6_step 4 (some .int) 5 0 0 sz [.ref a, .int v, .int x0] (B G a C) (Rw G a (.int (-3)) C) := by
  refine Ct.of (own := RX6) (mn := "step") (L0 := [some (.ref (a + 0)), some (.int v), some (.int x0), none]) (by decide +kernel) rfl rfl rfl (Nat.le_of_ble_eq_true rfl) rfl ?_
  refine V_iload_n dX6_step_0 rfl ?_
  refine V_callSw dX6_step_1 kX6_51 ykX6_isVerb (tX6_isVerb v) rfl (Nat.le_of_ble_eq_true rfl) ⟨by decide, by decide, by decide, by decide⟩ ?_
  refine V_if_ne dX6_step_4 (fun _ => ?_) (fun z => absurd z ((bI_ne0.mpr hv)))
  refine V_iload_n dX6_step_9 rfl ?_
  refine V_iload_n dX6_step_10 rfl ?_
  refine V_callSw dX6_step_11 kX6_55 ykX6_inRange (tX6_inRange v x0) rfl (Nat.le_of_ble_eq_true rfl) ⟨by decide, by decide, by decide, by decide⟩ ?_
  refine V_if_ne dX6_step_14 (fun _ => ?_) (fun z => absurd z ((bI_ne0.mpr hx)))
  refine V_aload_n dX6_step_20 rfl ?_
  refine V_bget dX6_step_21 fX6_12 (by decide) rfl (by (try simp only [mset_s, mset_n, pk_us, pk_un, ne_eq, Nat.reduceEqDiff, Nat.reduceAdd, not_false_eq_true, not_true_eq_false]) <;> rfl) ?_
  refine V_bget dX6_step_24 fX6_59 (by decide) rfl (by (try simp only [mset_s, mset_n, pk_us, pk_un, ne_eq, Nat.reduceEqDiff, Nat.reduceAdd, not_false_eq_true, not_true_eq_false]) <;> rfl) ?_
  rw [ho]
  refine V_if_eq dX6_step_27 (fun z => absurd z (by decide)) (fun _ => ?_)
  refine V_aload_n dX6_step_30 rfl ?_
  refine V_bget dX6_step_31 fX6_12 (by decide) rfl (by (try simp only [mset_s, mset_n, pk_us, pk_un, ne_eq, Nat.reduceEqDiff, Nat.reduceAdd, not_false_eq_true, not_true_eq_false]) <;> rfl) ?_
  refine V_callVw dX6_step_34 kX6_63 ykX4_openSize (by decide) rfl rfl (tX4_openSize h4 htc) rfl (Nat.le_of_ble_eq_true rfl) ⟨by decide, by decide, by decide, by decide⟩ ?_
  rw [hl]
  refine V_bipush (v := 12) dX6_step_37 (by decide) ?_
  refine V_icmp_lt dX6_step_39 (fun z => absurd z (fun z => absurd ((clt (by repeat (first | with_reducible rfl | with_reducible exact nlit | with_reducible apply nadd | with_reducible apply nmul | with_reducible apply nsub | with_reducible assumption | omega)) (by repeat (first | with_reducible rfl | with_reducible exact nlit | with_reducible apply nadd | with_reducible apply nmul | with_reducible apply nsub | with_reducible assumption | omega)) (by omega) (by omega)).mp z) (by omega))) (fun _ => ?_)
  refine V_bipush (v := (-3)) dX6_step_42 (by decide) ?_
  refine V_iret dX6_step_44 rfl rfl rfl ?_
  exact Rw_i rfl rfl
theorem obC_n {hd m i : Nat} {v : Int32} (h1 : i ≠ 1) (h2 : i ≠ 2) (h3 : i ≠ 3) : obC C hd v m i = C i := by unfold obC; rw [mset_n h1, roS_n h2 h3]
theorem obC_2 {hd m : Nat} {v : Int32} : obC C hd v m 2 = upd (C 2) 0 (nI (rowStep (C 3) hd v m).2) := by unfold obC; rw [mset_n (by decide), roS_q]
theorem obC_3 {hd m : Nat} {v : Int32} : obC C hd v m 3 = (rowStep (C 3) hd v m).1 := by unfold obC; rw [mset_n (by decide)]; exact roS_q1
theorem obC_1 {hd m : Nat} {v : Int32} : obC C hd v m 1 0 = C 1 0 := by unfold obC; rw [mset_s]; rfl
theorem apS_n {q W n s i : Nat} {v m t : Int32} (h1 : i ≠ q + 1) (h2 : i ≠ q + 2) (h3 : i ≠ q + 3) (h4 : i ≠ q + 4) : apS C q W n s v m t i = C i := by unfold apS; rw [mset_n h4, mset_n h3, mset_n h2, mset_n h1]
set_option maxHeartbeats 4000000 in
theorem tX6_step {tc len hd st m : Nat} (v : Int32) (hv : 0 ≤ v ∧ v ≤ 5) (hm : m < 100) (hx : inR v (nI m)) (hop : C 1 0 = 0 ∨ C 1 0 = 1) (hot : C 1 0 = 1 → tc < 6 ∧ C 8 tc = nI len ∧ len < 12) (h4 : C 4 0 = nI tc) (h0 : C 2 0 = nI hd) (hhd : hd < 30) (hi : HiK C) (hst : st ≤ 4) (h16 : C 16 0 = nI st) : Ct G l yX6_step cX6_step 4 (some .int) 5 0 0 sz [.ref a, .int v, .int (nI m)] (B G a C) (Rp G a (.int (if pStep (C 3) hd v m then (rowStep (C 3) hd v m).1 (rowStep (C 3) hd v m).2 else 100)) C st (fun C1 => stC C1 tc len hd v m)) := by
  obtain ⟨e1, e2, e3⟩ := inR_nat hx
  have hrd := rowStep_hd (c := C 3) hhd hx
  have em : (nI m).toInt.toNat = m := by rw [nI_toInt (by omega)]; rfl
  rw [em] at e1 e2 e3 hrd
  refine Ct.of (own := RX6) (mn := "step") (L0 := [some (.ref (a + 0)), some (.int v), some (.int (nI m)), none]) (by decide +kernel) rfl rfl rfl (Nat.le_of_ble_eq_true rfl) rfl ?_
  refine V_iload_n dX6_step_0 rfl ?_
  refine V_callSw dX6_step_1 kX6_51 ykX6_isVerb (tX6_isVerb v) rfl (Nat.le_of_ble_eq_true rfl) ⟨by decide, by decide, by decide, by decide⟩ ?_
  refine V_if_ne dX6_step_4 (fun _ => ?_) (fun z => absurd z ((bI_ne0.mpr hv)))
  refine V_iload_n dX6_step_9 rfl ?_
  refine V_iload_n dX6_step_10 rfl ?_
  refine V_callSw dX6_step_11 kX6_55 ykX6_inRange (tX6_inRange v (nI m)) rfl (Nat.le_of_ble_eq_true rfl) ⟨by decide, by decide, by decide, by decide⟩ ?_
  refine V_if_ne dX6_step_14 (fun _ => ?_) (fun z => absurd z ((bI_ne0.mpr hx)))
  have go : V G l RX6 "step" cX6_step 4 (some .int) (rmd 5 0 0) E0 (Qm G (Rp G a (.int (if pStep (C 3) hd v m then (rowStep (C 3) hd v m).1 (rowStep (C 3) hd v m).2 else 100)) C st (fun C1 => stC C1 tc len hd v m)) sz 0 0) sz 0 0 45 [some (.ref (a + 0)), some (.int v), some (.int (nI m)), none] [] (B G a C) := by
    refine V_aload_n dX6_step_45 rfl ?_
    refine V_bget dX6_step_46 fX6_19 (by decide) rfl (by (try simp only [mset_s, mset_n, pk_us, pk_un, ne_eq, Nat.reduceEqDiff, Nat.reduceAdd, not_false_eq_true, not_true_eq_false]) <;> rfl) ?_
    refine V_aload_n dX6_step_49 rfl ?_
    refine V_bget dX6_step_50 fX6_12 (by decide) rfl (by (try simp only [mset_s, mset_n, pk_us, pk_un, ne_eq, Nat.reduceEqDiff, Nat.reduceAdd, not_false_eq_true, not_true_eq_false]) <;> rfl) ?_
    refine V_callV dX6_step_53 kX6_67 ykX0_push (B_at (by decide) rfl) rfl (tX0_push hi h16 hst hop) rfl (Nat.le_of_ble_eq_true rfl) ⟨by decide, by decide, by decide, by decide⟩ ?_
    intro r h' hq
    obtain ⟨C1, rfl, rfl, hP⟩ := hq
    have hP1 := hP.1
    have c : ∀ i, i < 16 → C1 i = C i := fun i h => hP1 i (Or.inl h)
    show V G l RX6 "step" cX6_step 4 (some .int) (rmd 5 0 0) E0 (Qm G (Rp G a (.int (if pStep (C 3) hd v m then (rowStep (C 3) hd v m).1 (rowStep (C 3) hd v m).2 else 100)) C st (fun C1 => stC C1 tc len hd v m)) sz 0 0) sz 0 0 56 [some (.ref (a + 0)), some (.int v), some (.int (nI m)), none] [] (B G a C1)
    have ob := tX4_obey (G := G) (l := l) (sz := sz + 0 + 0) (a := a) (C := C1) (hd := hd) (m := m) (v := v) (by rw [c 2 (by decide)]; exact h0) hhd (fun z => e3 (z.elim (fun w => Or.inr (Or.inl w)) (fun w => Or.inr (Or.inr w)))) e2
    refine V_aload_n dX6_step_56 rfl ?_
    refine V_bget dX6_step_57 fX6_12 (by decide) rfl (by (try simp only [mset_s, mset_n, pk_us, pk_un, ne_eq, Nat.reduceEqDiff, Nat.reduceAdd, not_false_eq_true, not_true_eq_false]) <;> rfl) ?_
    refine V_iload_n dX6_step_60 rfl ?_
    refine V_iload_n dX6_step_61 rfl ?_
    refine V_callVw dX6_step_62 kX6_71 ykX4_obey (by decide) rfl rfl ob rfl (Nat.le_of_ble_eq_true rfl) ⟨by decide, by decide, by decide, by decide⟩ ?_
    refine V_istore_n dX6_step_65 (by decide) (by dsimp only [List.set] <;> rfl) rfl ?_
    refine V_aload_n dX6_step_66 rfl ?_
    refine V_bget dX6_step_67 fX6_12 (by decide) rfl (by (try simp only [mset_s, mset_n, pk_us, pk_un, ne_eq, Nat.reduceEqDiff, Nat.reduceAdd, not_false_eq_true, not_true_eq_false]) <;> rfl) ?_
    refine V_bget dX6_step_70 fX6_59 (by decide) rfl (by (try simp only [mset_s, mset_n, pk_us, pk_un, ne_eq, Nat.reduceEqDiff, Nat.reduceAdd, not_false_eq_true, not_true_eq_false]) <;> rfl) ?_
    rw [obC_1, c 1 (by decide)]
    have fin : ∀ (C2 : CT), C2 = stC C1 tc len hd v m → C2 2 0 = nI (rowStep (C 3) hd v m).2 → C2 3 = (rowStep (C 3) hd v m).1 → V G l RX6 "step" cX6_step 4 (some .int) (rmd 5 0 0) E0 (Qm G (Rp G a (.int (if pStep (C 3) hd v m then (rowStep (C 3) hd v m).1 (rowStep (C 3) hd v m).2 else 100)) C st (fun C1 => stC C1 tc len hd v m)) sz 0 0) sz 0 0 99 [some (.ref (a + 0)), some (.int v), some (.int (nI m)), some (.int (bI (pStep (C1 3) hd v m)))] [] (B G a C2) := by
      intro C2 f1 f2 f3
      have e13 : C1 3 = C 3 := c 3 (by decide)
      rw [e13]
      refine V_iload_n dX6_step_99 rfl ?_
      by_cases hp : pStep (C 3) hd v m
      · refine V_if_eq dX6_step_100 (fun z => absurd z (bI_ne0.mpr hp)) (fun _ => ?_)
        refine V_aload_n dX6_step_103 rfl ?_
        refine V_bget dX6_step_104 fX6_12 (by decide) rfl (by (try simp only [mset_s, mset_n, pk_us, pk_un, ne_eq, Nat.reduceEqDiff, Nat.reduceAdd, not_false_eq_true, not_true_eq_false]) <;> rfl) ?_
        refine V_bget dX6_step_107 fX6_88 (by decide) rfl (by (try simp only [mset_s, mset_n, pk_us, pk_un, ne_eq, Nat.reduceEqDiff, Nat.reduceAdd, not_false_eq_true, not_true_eq_false]) <;> rfl) ?_
        refine V_callVw dX6_step_110 kX6_91 ykX2_valueUnderHand (by decide) rfl rfl (tX2_valueUnderHand (q := 2) stk1.ro f2 hrd) rfl (Nat.le_of_ble_eq_true rfl) ⟨by decide, by decide, by decide, by decide⟩ ?_
        refine V_goto dX6_step_113 ?_
        refine V_iret dX6_step_118 rfl rfl rfl ?_
        exact Rp_i (by rw [if_pos hp, f3]) f1 hP
      · refine V_if_eq dX6_step_100 (fun _ => ?_) (fun z => absurd (bI_f hp) z)
        refine V_bipush (v := 100) dX6_step_116 (by decide) ?_
        refine V_iret dX6_step_118 rfl rfl rfl ?_
        exact Rp_i (by rw [if_neg hp]) f1 hP
    rcases hop with zz | zz
    · refine V_if_eq dX6_step_73 (fun _ => ?_) (fun z => absurd (by rw [zz]) z)
      refine fin _ ?_ ?_ ?_
      · unfold stC
        rw [if_neg (fun w => by rw [c 1 (by decide), zz] at w; exact absurd w.1 (by decide))]
      · rw [obC_2, c 3 (by decide)]; rfl
      · rw [obC_3, c 3 (by decide)]
    · obtain ⟨t1, t2, t3⟩ := hot zz
      refine V_if_eq dX6_step_73 (fun z => absurd z (by rw [zz]; decide)) (fun _ => ?_)
      refine V_aload_n dX6_step_76 rfl ?_
      refine V_bget dX6_step_77 fX6_12 (by decide) rfl (by (try simp only [mset_s, mset_n, pk_us, pk_un, ne_eq, Nat.reduceEqDiff, Nat.reduceAdd, not_false_eq_true, not_true_eq_false]) <;> rfl) ?_
      refine V_bget dX6_step_80 fX6_74 (by decide) rfl (by (try simp only [mset_s, mset_n, pk_us, pk_un, ne_eq, Nat.reduceEqDiff, Nat.reduceAdd, not_false_eq_true, not_true_eq_false]) <;> rfl) ?_
      refine V_aload_n dX6_step_83 rfl ?_
      refine V_bget dX6_step_84 fX6_12 (by decide) rfl (by (try simp only [mset_s, mset_n, pk_us, pk_un, ne_eq, Nat.reduceEqDiff, Nat.reduceAdd, not_false_eq_true, not_true_eq_false]) <;> rfl) ?_
      refine V_bget dX6_step_87 fX6_74 (by decide) rfl (by (try simp only [mset_s, mset_n, pk_us, pk_un, ne_eq, Nat.reduceEqDiff, Nat.reduceAdd, not_false_eq_true, not_true_eq_false]) <;> rfl) ?_
      refine V_bget dX6_step_90 fX6_78 (by decide) rfl (by (try simp only [mset_s, mset_n, pk_us, pk_un, ne_eq, Nat.reduceEqDiff, Nat.reduceAdd, not_false_eq_true, not_true_eq_false]) <;> rfl) ?_
      rw [obC_n (i := 4) (by decide) (by decide) (by decide), c 4 (by decide), h4]
      refine V_iload_n dX6_step_93 rfl ?_
      refine V_iload_n dX6_step_94 rfl ?_
      refine V_iconst (v := 0) dX6_step_95 (by decide) ?_
      refine V_callVu dX6_step_96 kX6_84 ykX3_append (by decide) rfl rfl (tX3_append (q := 4) (W := 12) (N := 6) (s := len) stk1.sh3 t1 (by rw [obC_n (by decide) (by decide) (by decide), c 8 (by decide)]; exact t2) (by omega)) rfl (Nat.le_of_ble_eq_true rfl) ⟨by decide, by decide, by decide, by decide⟩ ?_
      rw [if_pos t3]
      refine fin _ ?_ ?_ ?_
      · unfold stC
        rw [if_pos ⟨by rw [c 1 (by decide)]; exact zz, t3⟩]
      · rw [apS_n (by decide) (by decide) (by decide) (by decide), obC_2, c 3 (by decide)]; rfl
      · rw [apS_n (by decide) (by decide) (by decide) (by decide), obC_3, c 3 (by decide)]
  refine V_aload_n dX6_step_20 rfl ?_
  refine V_bget dX6_step_21 fX6_12 (by decide) rfl (by (try simp only [mset_s, mset_n, pk_us, pk_un, ne_eq, Nat.reduceEqDiff, Nat.reduceAdd, not_false_eq_true, not_true_eq_false]) <;> rfl) ?_
  refine V_bget dX6_step_24 fX6_59 (by decide) rfl (by (try simp only [mset_s, mset_n, pk_us, pk_un, ne_eq, Nat.reduceEqDiff, Nat.reduceAdd, not_false_eq_true, not_true_eq_false]) <;> rfl) ?_
  rcases hop with zz | zz
  · refine V_if_eq dX6_step_27 (fun _ => ?_) (fun z => absurd zz z)
    exact go
  · obtain ⟨t1, t2, t3⟩ := hot zz
    refine V_if_eq dX6_step_27 (fun z => absurd z (by rw [zz]; decide)) (fun _ => ?_)
    refine V_aload_n dX6_step_30 rfl ?_
    refine V_bget dX6_step_31 fX6_12 (by decide) rfl (by (try simp only [mset_s, mset_n, pk_us, pk_un, ne_eq, Nat.reduceEqDiff, Nat.reduceAdd, not_false_eq_true, not_true_eq_false]) <;> rfl) ?_
    refine V_callVw dX6_step_34 kX6_63 ykX4_openSize (by decide) rfl rfl (tX4_openSize h4 t1) rfl (Nat.le_of_ble_eq_true rfl) ⟨by decide, by decide, by decide, by decide⟩ ?_
    rw [t2]
    refine V_bipush (v := 12) dX6_step_37 (by decide) ?_
    refine V_icmp_lt dX6_step_39 (fun _ => ?_) (fun z => absurd ((clt (by repeat (first | with_reducible rfl | with_reducible exact nlit | with_reducible apply nadd | with_reducible apply nmul | with_reducible apply nsub | with_reducible assumption | omega)) (by repeat (first | with_reducible rfl | with_reducible exact nlit | with_reducible apply nadd | with_reducible apply nmul | with_reducible apply nsub | with_reducible assumption | omega)) (by omega) (by omega)).mpr (by omega)) z)
    exact go
theorem tX6_record_o (ho : C 1 0 = 1) : Ct G l yX6_record cX6_record 1 (some .int) 5 0 0 sz [.ref a] (B G a C) (Rw G a (.int (-4)) C) := by
  refine Ct.of (own := RX6) (mn := "record") (L0 := [some (.ref (a + 0))]) (by decide +kernel) rfl rfl rfl (Nat.le_of_ble_eq_true rfl) rfl ?_
  refine V_aload_n dX6_record_0 rfl ?_
  refine V_bget dX6_record_1 fX6_12 (by decide) rfl (by (try simp only [mset_s, mset_n, pk_us, pk_un, ne_eq, Nat.reduceEqDiff, Nat.reduceAdd, not_false_eq_true, not_true_eq_false]) <;> rfl) ?_
  refine V_bget dX6_record_4 fX6_59 (by decide) rfl (by (try simp only [mset_s, mset_n, pk_us, pk_un, ne_eq, Nat.reduceEqDiff, Nat.reduceAdd, not_false_eq_true, not_true_eq_false]) <;> rfl) ?_
  rw [ho]
  refine V_if_eq dX6_record_7 (fun z => absurd z (by decide)) (fun _ => ?_)
  refine V_bipush (v := (-4)) dX6_record_10 (by decide) ?_
  refine V_iret dX6_record_12 rfl rfl rfl ?_
  exact Rw_i rfl rfl
theorem tX6_record_f (ho : C 1 0 = 0) (h4 : C 4 0 = 6) : Ct G l yX6_record cX6_record 1 (some .int) 5 0 0 sz [.ref a] (B G a C) (Rw G a (.int (-3)) C) := by
  refine Ct.of (own := RX6) (mn := "record") (L0 := [some (.ref (a + 0))]) (by decide +kernel) rfl rfl rfl (Nat.le_of_ble_eq_true rfl) rfl ?_
  refine V_aload_n dX6_record_0 rfl ?_
  refine V_bget dX6_record_1 fX6_12 (by decide) rfl (by (try simp only [mset_s, mset_n, pk_us, pk_un, ne_eq, Nat.reduceEqDiff, Nat.reduceAdd, not_false_eq_true, not_true_eq_false]) <;> rfl) ?_
  refine V_bget dX6_record_4 fX6_59 (by decide) rfl (by (try simp only [mset_s, mset_n, pk_us, pk_un, ne_eq, Nat.reduceEqDiff, Nat.reduceAdd, not_false_eq_true, not_true_eq_false]) <;> rfl) ?_
  rw [ho]
  refine V_if_eq dX6_record_7 (fun _ => ?_) (fun z => absurd rfl z)
  refine V_aload_n dX6_record_13 rfl ?_
  refine V_bget dX6_record_14 fX6_12 (by decide) rfl (by (try simp only [mset_s, mset_n, pk_us, pk_un, ne_eq, Nat.reduceEqDiff, Nat.reduceAdd, not_false_eq_true, not_true_eq_false]) <;> rfl) ?_
  refine V_bget dX6_record_17 fX6_74 (by decide) rfl (by (try simp only [mset_s, mset_n, pk_us, pk_un, ne_eq, Nat.reduceEqDiff, Nat.reduceAdd, not_false_eq_true, not_true_eq_false]) <;> rfl) ?_
  refine V_callVw dX6_record_20 kX6_94 ykX3_isFull (by decide) rfl rfl (tX3_isFull (q := 4) (cnt := 6) stk1.sh3 h4 (by decide)) rfl (Nat.le_of_ble_eq_true rfl) ⟨by decide, by decide, by decide, by decide⟩ ?_
  refine V_if_eq dX6_record_23 (fun z => absurd z (by decide)) (fun _ => ?_)
  refine V_bipush (v := (-3)) dX6_record_26 (by decide) ?_
  refine V_iret dX6_record_28 rfl rfl rfl ?_
  exact Rw_i rfl rfl
set_option maxHeartbeats 4000000 in
theorem tX6_record {tc st : Nat} (ho : C 1 0 = 0) (h4 : C 4 0 = nI tc) (htc : tc < 6) (hi : HiK C) (hst : st ≤ 4) (h16 : C 16 0 = nI st) : Ct G l yX6_record cX6_record 1 (some .int) 5 0 0 sz [.ref a] (B G a C) (Rp G a (.int (nI tc)) C st (fun C1 => mset (mset C1 1 (upd (C1 1) 0 1)) 8 (upd (C1 8) tc 0))) := by
  refine Ct.of (own := RX6) (mn := "record") (L0 := [some (.ref (a + 0))]) (by decide +kernel) rfl rfl rfl (Nat.le_of_ble_eq_true rfl) rfl ?_
  refine V_aload_n dX6_record_0 rfl ?_
  refine V_bget dX6_record_1 fX6_12 (by decide) rfl (by (try simp only [mset_s, mset_n, pk_us, pk_un, ne_eq, Nat.reduceEqDiff, Nat.reduceAdd, not_false_eq_true, not_true_eq_false]) <;> rfl) ?_
  refine V_bget dX6_record_4 fX6_59 (by decide) rfl (by (try simp only [mset_s, mset_n, pk_us, pk_un, ne_eq, Nat.reduceEqDiff, Nat.reduceAdd, not_false_eq_true, not_true_eq_false]) <;> rfl) ?_
  rw [ho]
  refine V_if_eq dX6_record_7 (fun _ => ?_) (fun z => absurd rfl z)
  refine V_aload_n dX6_record_13 rfl ?_
  refine V_bget dX6_record_14 fX6_12 (by decide) rfl (by (try simp only [mset_s, mset_n, pk_us, pk_un, ne_eq, Nat.reduceEqDiff, Nat.reduceAdd, not_false_eq_true, not_true_eq_false]) <;> rfl) ?_
  refine V_bget dX6_record_17 fX6_74 (by decide) rfl (by (try simp only [mset_s, mset_n, pk_us, pk_un, ne_eq, Nat.reduceEqDiff, Nat.reduceAdd, not_false_eq_true, not_true_eq_false]) <;> rfl) ?_
  refine V_callVw dX6_record_20 kX6_94 ykX3_isFull (by decide) rfl rfl (tX3_isFull (q := 4) (cnt := tc) stk1.sh3 h4 (by omega)) rfl (Nat.le_of_ble_eq_true rfl) ⟨by decide, by decide, by decide, by decide⟩ ?_
  refine V_if_eq dX6_record_23 (fun _ => ?_) (fun z => absurd (bI_f (by omega)) z)
  refine V_aload_n dX6_record_29 rfl ?_
  refine V_bget dX6_record_30 fX6_19 (by decide) rfl (by (try simp only [mset_s, mset_n, pk_us, pk_un, ne_eq, Nat.reduceEqDiff, Nat.reduceAdd, not_false_eq_true, not_true_eq_false]) <;> rfl) ?_
  refine V_aload_n dX6_record_33 rfl ?_
  refine V_bget dX6_record_34 fX6_12 (by decide) rfl (by (try simp only [mset_s, mset_n, pk_us, pk_un, ne_eq, Nat.reduceEqDiff, Nat.reduceAdd, not_false_eq_true, not_true_eq_false]) <;> rfl) ?_
  refine V_callV dX6_record_37 kX6_67 ykX0_push (B_at (by decide) rfl) rfl (tX0_push hi h16 hst (Or.inl ho)) rfl (Nat.le_of_ble_eq_true rfl) ⟨by decide, by decide, by decide, by decide⟩ ?_
  intro r h' hq
  obtain ⟨C1, rfl, rfl, hP⟩ := hq
  have hP1 := hP.1
  have c : ∀ i, i < 16 → C1 i = C i := fun i h => hP1 i (Or.inl h)
  show V G l RX6 "record" cX6_record 1 (some .int) (rmd 5 0 0) E0 (Qm G (Rp G a (.int (nI tc)) C st (fun C1 => mset (mset C1 1 (upd (C1 1) 0 1)) 8 (upd (C1 8) tc 0))) sz 0 0) sz 0 0 40 [some (.ref (a + 0))] [] (B G a C1)
  refine V_aload_n dX6_record_40 rfl ?_
  refine V_bget dX6_record_41 fX6_12 (by decide) rfl (by (try simp only [mset_s, mset_n, pk_us, pk_un, ne_eq, Nat.reduceEqDiff, Nat.reduceAdd, not_false_eq_true, not_true_eq_false]) <;> rfl) ?_
  refine V_iconst (v := 1) dX6_record_44 (by decide) ?_
  refine V_bputi (i0 := 0) dX6_record_45 fX6_59 (by decide) rfl (by first | rfl | exact bI_nar) (by first | rfl | exact bI_fit) (Nat.le_of_ble_eq_true rfl) rfl ?_
  refine V_aload_n dX6_record_48 rfl ?_
  refine V_bget dX6_record_49 fX6_12 (by decide) rfl (by (try simp only [mset_s, mset_n, pk_us, pk_un, ne_eq, Nat.reduceEqDiff, Nat.reduceAdd, not_false_eq_true, not_true_eq_false]) <;> rfl) ?_
  refine V_bget dX6_record_52 fX6_74 (by decide) rfl (by (try simp only [mset_s, mset_n, pk_us, pk_un, ne_eq, Nat.reduceEqDiff, Nat.reduceAdd, not_false_eq_true, not_true_eq_false]) <;> rfl) ?_
  refine V_callVu dX6_record_55 kX6_98 ykX3_emptyNext (by decide) rfl rfl (tX3_emptyNext (q := 4) (cnt := tc) stk1.sh3 (by rw [mset_n (by decide), c 4 (by decide)]; exact h4) (by omega)) rfl (Nat.le_of_ble_eq_true rfl) ⟨by decide, by decide, by decide, by decide⟩ ?_
  rw [if_pos htc]
  refine V_aload_n dX6_record_58 rfl ?_
  refine V_bget dX6_record_59 fX6_12 (by decide) rfl (by (try simp only [mset_s, mset_n, pk_us, pk_un, ne_eq, Nat.reduceEqDiff, Nat.reduceAdd, not_false_eq_true, not_true_eq_false]) <;> rfl) ?_
  refine V_bget dX6_record_62 fX6_74 (by decide) rfl (by (try simp only [mset_s, mset_n, pk_us, pk_un, ne_eq, Nat.reduceEqDiff, Nat.reduceAdd, not_false_eq_true, not_true_eq_false]) <;> rfl) ?_
  refine V_bget dX6_record_65 fX6_78 (by decide) rfl (by (try simp only [mset_s, mset_n, pk_us, pk_un, ne_eq, Nat.reduceEqDiff, Nat.reduceAdd, not_false_eq_true, not_true_eq_false]) <;> rfl) ?_
  refine V_iret dX6_record_68 rfl rfl rfl ?_
  refine Rp_i ?_ ?_ hP
  · rw [c 4 (by decide), h4]
  · simp only [mset_s, mset_ss, mset_n, pk_us, pk_un, uus, ne_eq, Nat.reduceEqDiff, Nat.reduceAdd, not_false_eq_true, not_true_eq_false]
theorem tX6_end_o (ho : C 1 0 = 0) : Ct G l yX6_end cX6_end 1 (some .int) 5 0 0 sz [.ref a] (B G a C) (Rw G a (.int (-4)) C) := by
  refine Ct.of (own := RX6) (mn := "end") (L0 := [some (.ref (a + 0))]) (by decide +kernel) rfl rfl rfl (Nat.le_of_ble_eq_true rfl) rfl ?_
  refine V_aload_n dX6_end_0 rfl ?_
  refine V_bget dX6_end_1 fX6_12 (by decide) rfl (by (try simp only [mset_s, mset_n, pk_us, pk_un, ne_eq, Nat.reduceEqDiff, Nat.reduceAdd, not_false_eq_true, not_true_eq_false]) <;> rfl) ?_
  refine V_bget dX6_end_4 fX6_59 (by decide) rfl (by (try simp only [mset_s, mset_n, pk_us, pk_un, ne_eq, Nat.reduceEqDiff, Nat.reduceAdd, not_false_eq_true, not_true_eq_false]) <;> rfl) ?_
  rw [ho]
  refine V_if_ne dX6_end_7 (fun z => absurd z (fun z => z rfl)) (fun _ => ?_)
  refine V_bipush (v := (-4)) dX6_end_10 (by decide) ?_
  refine V_iret dX6_end_12 rfl rfl rfl ?_
  exact Rw_i rfl rfl
set_option maxHeartbeats 4000000 in
theorem tX6_end {tc len st : Nat} (ho : C 1 0 = 1) (h4 : C 4 0 = nI tc) (htc : tc < 6) (hl : C 8 tc = nI len) (hlen : len ≤ 12) (hi : HiK C) (hst : st ≤ 4) (h16 : C 16 0 = nI st) : Ct G l yX6_end cX6_end 1 (some .int) 5 0 0 sz [.ref a] (B G a C) (Rp G a (.int (if len = 0 then 100 else nI tc)) C st (fun C1 => if len = 0 then mset C1 1 (upd (C1 1) 0 0) else mset (mset (mset C1 1 (upd (C1 1) 0 0)) 9 (upd (C1 9) tc 1)) 4 (upd (C1 4) 0 (nI (tc + 1))))) := by
  refine Ct.of (own := RX6) (mn := "end") (L0 := [some (.ref (a + 0))]) (by decide +kernel) rfl rfl rfl (Nat.le_of_ble_eq_true rfl) rfl ?_
  refine V_aload_n dX6_end_0 rfl ?_
  refine V_bget dX6_end_1 fX6_12 (by decide) rfl (by (try simp only [mset_s, mset_n, pk_us, pk_un, ne_eq, Nat.reduceEqDiff, Nat.reduceAdd, not_false_eq_true, not_true_eq_false]) <;> rfl) ?_
  refine V_bget dX6_end_4 fX6_59 (by decide) rfl (by (try simp only [mset_s, mset_n, pk_us, pk_un, ne_eq, Nat.reduceEqDiff, Nat.reduceAdd, not_false_eq_true, not_true_eq_false]) <;> rfl) ?_
  rw [ho]
  refine V_if_ne dX6_end_7 (fun _ => ?_) (fun z => absurd z ((by decide)))
  refine V_aload_n dX6_end_13 rfl ?_
  refine V_bget dX6_end_14 fX6_19 (by decide) rfl (by (try simp only [mset_s, mset_n, pk_us, pk_un, ne_eq, Nat.reduceEqDiff, Nat.reduceAdd, not_false_eq_true, not_true_eq_false]) <;> rfl) ?_
  refine V_aload_n dX6_end_17 rfl ?_
  refine V_bget dX6_end_18 fX6_12 (by decide) rfl (by (try simp only [mset_s, mset_n, pk_us, pk_un, ne_eq, Nat.reduceEqDiff, Nat.reduceAdd, not_false_eq_true, not_true_eq_false]) <;> rfl) ?_
  refine V_callV dX6_end_21 kX6_67 ykX0_push (B_at (by decide) rfl) rfl (tX0_push hi h16 hst (Or.inr ho)) rfl (Nat.le_of_ble_eq_true rfl) ⟨by decide, by decide, by decide, by decide⟩ ?_
  intro r h' hq
  obtain ⟨C1, rfl, rfl, hP⟩ := hq
  have hP1 := hP.1
  have c : ∀ i, i < 16 → C1 i = C i := fun i h => hP1 i (Or.inl h)
  show V G l RX6 "end" cX6_end 1 (some .int) (rmd 5 0 0) E0 (Qm G (Rp G a (.int (if len = 0 then 100 else nI tc)) C st (fun C1 => if len = 0 then mset C1 1 (upd (C1 1) 0 0) else mset (mset (mset C1 1 (upd (C1 1) 0 0)) 9 (upd (C1 9) tc 1)) 4 (upd (C1 4) 0 (nI (tc + 1))))) sz 0 0) sz 0 0 24 [some (.ref (a + 0))] [] (B G a C1)
  refine V_aload_n dX6_end_24 rfl ?_
  refine V_bget dX6_end_25 fX6_12 (by decide) rfl (by (try simp only [mset_s, mset_n, pk_us, pk_un, ne_eq, Nat.reduceEqDiff, Nat.reduceAdd, not_false_eq_true, not_true_eq_false]) <;> rfl) ?_
  refine V_iconst (v := 0) dX6_end_28 (by decide) ?_
  refine V_bputi (i0 := 0) dX6_end_29 fX6_59 (by decide) rfl (by first | rfl | exact bI_nar) (by first | rfl | exact bI_fit) (Nat.le_of_ble_eq_true rfl) rfl ?_
  refine V_aload_n dX6_end_32 rfl ?_
  refine V_bget dX6_end_33 fX6_12 (by decide) rfl (by (try simp only [mset_s, mset_n, pk_us, pk_un, ne_eq, Nat.reduceEqDiff, Nat.reduceAdd, not_false_eq_true, not_true_eq_false]) <;> rfl) ?_
  refine V_callVw dX6_end_36 kX6_63 ykX4_openSize (by decide) rfl rfl (tX4_openSize (tc := tc) (by rw [mset_n (by decide), c 4 (by decide)]; exact h4) htc) rfl (Nat.le_of_ble_eq_true rfl) ⟨by decide, by decide, by decide, by decide⟩ ?_
  rw [show mset C1 1 (upd (C1 1) 0 0) 8 tc = nI len from by rw [mset_n (by decide), c 8 (by decide)]; exact hl]
  by_cases hl0 : len = 0
  · refine V_if_ne dX6_end_39 (fun z => absurd z (by rw [hl0]; exact fun z => z rfl)) (fun _ => ?_)
    refine V_bipush (v := 100) dX6_end_42 (by decide) ?_
    refine V_iret dX6_end_44 rfl rfl rfl ?_
    exact Rp_i (by rw [if_pos hl0]) (by rw [if_pos hl0]) hP
  · refine V_if_ne dX6_end_39 (fun _ => ?_) (fun z => absurd z ((fun z => absurd ((ceq (by repeat (first | with_reducible rfl | with_reducible exact nlit | with_reducible apply nadd | with_reducible apply nmul | with_reducible apply nsub | with_reducible assumption | omega)) (by repeat (first | with_reducible rfl | with_reducible exact nlit | with_reducible apply nadd | with_reducible apply nmul | with_reducible apply nsub | with_reducible assumption | omega)) (by omega) (by omega)).mp z) (by omega))))
    refine V_aload_n dX6_end_45 rfl ?_
    refine V_bget dX6_end_46 fX6_12 (by decide) rfl (by (try simp only [mset_s, mset_n, pk_us, pk_un, ne_eq, Nat.reduceEqDiff, Nat.reduceAdd, not_false_eq_true, not_true_eq_false]) <;> rfl) ?_
    refine V_bget dX6_end_49 fX6_74 (by decide) rfl (by (try simp only [mset_s, mset_n, pk_us, pk_un, ne_eq, Nat.reduceEqDiff, Nat.reduceAdd, not_false_eq_true, not_true_eq_false]) <;> rfl) ?_
    refine V_iconst (v := 1) dX6_end_52 (by decide) ?_
    refine V_callVw dX6_end_53 kX6_101 ykX3_keepNext (by decide) rfl rfl (tX3_keepNext (q := 4) (cnt := tc) stk1.sh3 (by rw [mset_n (by decide), c 4 (by decide)]; exact h4) htc) rfl (Nat.le_of_ble_eq_true rfl) ⟨by decide, by decide, by decide, by decide⟩ ?_
    refine V_iret dX6_end_56 rfl rfl rfl ?_
    refine Rp_i (by rw [if_neg hl0]) ?_ hP
    rw [if_neg hl0]
    simp only [mset_s, mset_ss, mset_n, pk_us, pk_un, uus, ne_eq, Nat.reduceEqDiff, Nat.reduceAdd, not_false_eq_true, not_true_eq_false]
theorem tX6_dropTry_o {tc : Nat} (v : Int32) (h4 : C 4 0 = nI tc) (htc : tc ≤ 6) (hx : ¬ isIx v tc) : Ct G l yX6_dropTry cX6_dropTry 2 (some .int) 5 0 0 sz [.ref a, .int v] (B G a C) (Rw G a (.int (-1)) C) := by
  refine Ct.of (own := RX6) (mn := "dropTry") (L0 := [some (.ref (a + 0)), some (.int v)]) (by decide +kernel) rfl rfl rfl (Nat.le_of_ble_eq_true rfl) rfl ?_
  refine V_aload_n dX6_dropTry_0 rfl ?_
  refine V_bget dX6_dropTry_1 fX6_12 (by decide) rfl (by (try simp only [mset_s, mset_n, pk_us, pk_un, ne_eq, Nat.reduceEqDiff, Nat.reduceAdd, not_false_eq_true, not_true_eq_false]) <;> rfl) ?_
  refine V_bget dX6_dropTry_4 fX6_74 (by decide) rfl (by (try simp only [mset_s, mset_n, pk_us, pk_un, ne_eq, Nat.reduceEqDiff, Nat.reduceAdd, not_false_eq_true, not_true_eq_false]) <;> rfl) ?_
  refine V_iload_n dX6_dropTry_7 rfl ?_
  refine V_callVw dX6_dropTry_8 kX6_105 ykX3_holds (by decide) rfl rfl (tX3_holds (q := 4) (cnt := tc) stk1.sh3 h4 (by omega)) rfl (Nat.le_of_ble_eq_true rfl) ⟨by decide, by decide, by decide, by decide⟩ ?_
  refine V_if_ne dX6_dropTry_11 (fun z => absurd z (fun z => z (bI_f hx))) (fun _ => ?_)
  refine V_iconst (v := (-1)) dX6_dropTry_14 (by decide) ?_
  refine V_iret dX6_dropTry_15 rfl rfl rfl ?_
  exact Rw_i rfl rfl
set_option maxHeartbeats 4000000 in
theorem tX6_dropTry {tc n st : Nat} (h4 : C 4 0 = nI tc) (htc : tc ≤ 6) (hn : n < tc) (hi : HiK C) (hst : st ≤ 4) (h16 : C 16 0 = nI st) (hop : C 1 0 = 0 ∨ C 1 0 = 1) : Ct G l yX6_dropTry cX6_dropTry 2 (some .int) 5 0 0 sz [.ref a, .int (nI n)] (B G a C) (Rp G a (.int (nI (tc - 1))) C st (fun C1 => drS C1 4 12 6 n tc)) := by
  have e : isIx (nI n) tc := by unfold isIx; rw [nI_toInt (by omega)]; omega
  refine Ct.of (own := RX6) (mn := "dropTry") (L0 := [some (.ref (a + 0)), some (.int (nI n))]) (by decide +kernel) rfl rfl rfl (Nat.le_of_ble_eq_true rfl) rfl ?_
  refine V_aload_n dX6_dropTry_0 rfl ?_
  refine V_bget dX6_dropTry_1 fX6_12 (by decide) rfl (by (try simp only [mset_s, mset_n, pk_us, pk_un, ne_eq, Nat.reduceEqDiff, Nat.reduceAdd, not_false_eq_true, not_true_eq_false]) <;> rfl) ?_
  refine V_bget dX6_dropTry_4 fX6_74 (by decide) rfl (by (try simp only [mset_s, mset_n, pk_us, pk_un, ne_eq, Nat.reduceEqDiff, Nat.reduceAdd, not_false_eq_true, not_true_eq_false]) <;> rfl) ?_
  refine V_iload_n dX6_dropTry_7 rfl ?_
  refine V_callVw dX6_dropTry_8 kX6_105 ykX3_holds (by decide) rfl rfl (tX3_holds (q := 4) (cnt := tc) stk1.sh3 h4 (by omega)) rfl (Nat.le_of_ble_eq_true rfl) ⟨by decide, by decide, by decide, by decide⟩ ?_
  refine V_if_ne dX6_dropTry_11 (fun _ => ?_) (fun z => absurd z ((bI_ne0.mpr e)))
  refine V_aload_n dX6_dropTry_16 rfl ?_
  refine V_bget dX6_dropTry_17 fX6_19 (by decide) rfl (by (try simp only [mset_s, mset_n, pk_us, pk_un, ne_eq, Nat.reduceEqDiff, Nat.reduceAdd, not_false_eq_true, not_true_eq_false]) <;> rfl) ?_
  refine V_aload_n dX6_dropTry_20 rfl ?_
  refine V_bget dX6_dropTry_21 fX6_12 (by decide) rfl (by (try simp only [mset_s, mset_n, pk_us, pk_un, ne_eq, Nat.reduceEqDiff, Nat.reduceAdd, not_false_eq_true, not_true_eq_false]) <;> rfl) ?_
  refine V_callV dX6_dropTry_24 kX6_67 ykX0_push (B_at (by decide) rfl) rfl (tX0_push hi h16 hst hop) rfl (Nat.le_of_ble_eq_true rfl) ⟨by decide, by decide, by decide, by decide⟩ ?_
  intro r h' hq
  obtain ⟨C1, rfl, rfl, hP⟩ := hq
  have hP1 := hP.1
  have c : ∀ i, i < 16 → C1 i = C i := fun i h => hP1 i (Or.inl h)
  show V G l RX6 "dropTry" cX6_dropTry 2 (some .int) (rmd 5 0 0) E0 (Qm G (Rp G a (.int (nI (tc - 1))) C st (fun C1 => drS C1 4 12 6 n tc)) sz 0 0) sz 0 0 27 [some (.ref (a + 0)), some (.int (nI n))] [] (B G a C1)
  refine V_aload_n dX6_dropTry_27 rfl ?_
  refine V_bget dX6_dropTry_28 fX6_12 (by decide) rfl (by (try simp only [mset_s, mset_n, pk_us, pk_un, ne_eq, Nat.reduceEqDiff, Nat.reduceAdd, not_false_eq_true, not_true_eq_false]) <;> rfl) ?_
  refine V_bget dX6_dropTry_31 fX6_74 (by decide) rfl (by (try simp only [mset_s, mset_n, pk_us, pk_un, ne_eq, Nat.reduceEqDiff, Nat.reduceAdd, not_false_eq_true, not_true_eq_false]) <;> rfl) ?_
  refine V_iload_n dX6_dropTry_34 rfl ?_
  refine V_callVu dX6_dropTry_35 kX6_108 ykX3_drop (by decide) rfl rfl (tX3_drop (q := 4) (cnt := tc) stk1.sh3 (by rw [c 4 (by decide)]; exact h4) hn htc) rfl (Nat.le_of_ble_eq_true rfl) ⟨by decide, by decide, by decide, by decide⟩ ?_
  refine V_aload_n dX6_dropTry_38 rfl ?_
  refine V_bget dX6_dropTry_39 fX6_12 (by decide) rfl (by (try simp only [mset_s, mset_n, pk_us, pk_un, ne_eq, Nat.reduceEqDiff, Nat.reduceAdd, not_false_eq_true, not_true_eq_false]) <;> rfl) ?_
  refine V_bget dX6_dropTry_42 fX6_74 (by decide) rfl (by (try simp only [mset_s, mset_n, pk_us, pk_un, ne_eq, Nat.reduceEqDiff, Nat.reduceAdd, not_false_eq_true, not_true_eq_false]) <;> rfl) ?_
  refine V_bget dX6_dropTry_45 fX6_78 (by decide) rfl (by (try simp only [mset_s, mset_n, pk_us, pk_un, ne_eq, Nat.reduceEqDiff, Nat.reduceAdd, not_false_eq_true, not_true_eq_false]) <;> rfl) ?_
  refine V_iret dX6_dropTry_48 rfl rfl rfl ?_
  exact Rp_i (by unfold drS; rw [mset_s, pk_us]) rfl hP
theorem tX6_dropLoop_o {lc : Nat} (v : Int32) (h4 : C 10 0 = nI lc) (hlc : lc ≤ 6) (hx : ¬ isIx v lc) : Ct G l yX6_dropLoop cX6_dropLoop 2 (some .int) 5 0 0 sz [.ref a, .int v] (B G a C) (Rw G a (.int (-1)) C) := by
  refine Ct.of (own := RX6) (mn := "dropLoop") (L0 := [some (.ref (a + 0)), some (.int v)]) (by decide +kernel) rfl rfl rfl (Nat.le_of_ble_eq_true rfl) rfl ?_
  refine V_aload_n dX6_dropLoop_0 rfl ?_
  refine V_bget dX6_dropLoop_1 fX6_12 (by decide) rfl (by (try simp only [mset_s, mset_n, pk_us, pk_un, ne_eq, Nat.reduceEqDiff, Nat.reduceAdd, not_false_eq_true, not_true_eq_false]) <;> rfl) ?_
  refine V_bget dX6_dropLoop_4 fX6_115 (by decide) rfl (by (try simp only [mset_s, mset_n, pk_us, pk_un, ne_eq, Nat.reduceEqDiff, Nat.reduceAdd, not_false_eq_true, not_true_eq_false]) <;> rfl) ?_
  refine V_iload_n dX6_dropLoop_7 rfl ?_
  refine V_callVw dX6_dropLoop_8 kX6_105 ykX3_holds (by decide) rfl rfl (tX3_holds (q := 10) (cnt := lc) stk1.sh9 h4 (by omega)) rfl (Nat.le_of_ble_eq_true rfl) ⟨by decide, by decide, by decide, by decide⟩ ?_
  refine V_if_ne dX6_dropLoop_11 (fun z => absurd z (fun z => z (bI_f hx))) (fun _ => ?_)
  refine V_iconst (v := (-1)) dX6_dropLoop_14 (by decide) ?_
  refine V_iret dX6_dropLoop_15 rfl rfl rfl ?_
  exact Rw_i rfl rfl
set_option maxHeartbeats 4000000 in
theorem tX6_dropLoop {lc n st : Nat} (h4 : C 10 0 = nI lc) (hlc : lc ≤ 6) (hn : n < lc) (hi : HiK C) (hst : st ≤ 4) (h16 : C 16 0 = nI st) (hop : C 1 0 = 0 ∨ C 1 0 = 1) : Ct G l yX6_dropLoop cX6_dropLoop 2 (some .int) 5 0 0 sz [.ref a, .int (nI n)] (B G a C) (Rp G a (.int (nI (lc - 1))) C st (fun C1 => drS C1 10 12 6 n lc)) := by
  have e : isIx (nI n) lc := by unfold isIx; rw [nI_toInt (by omega)]; omega
  refine Ct.of (own := RX6) (mn := "dropLoop") (L0 := [some (.ref (a + 0)), some (.int (nI n))]) (by decide +kernel) rfl rfl rfl (Nat.le_of_ble_eq_true rfl) rfl ?_
  refine V_aload_n dX6_dropLoop_0 rfl ?_
  refine V_bget dX6_dropLoop_1 fX6_12 (by decide) rfl (by (try simp only [mset_s, mset_n, pk_us, pk_un, ne_eq, Nat.reduceEqDiff, Nat.reduceAdd, not_false_eq_true, not_true_eq_false]) <;> rfl) ?_
  refine V_bget dX6_dropLoop_4 fX6_115 (by decide) rfl (by (try simp only [mset_s, mset_n, pk_us, pk_un, ne_eq, Nat.reduceEqDiff, Nat.reduceAdd, not_false_eq_true, not_true_eq_false]) <;> rfl) ?_
  refine V_iload_n dX6_dropLoop_7 rfl ?_
  refine V_callVw dX6_dropLoop_8 kX6_105 ykX3_holds (by decide) rfl rfl (tX3_holds (q := 10) (cnt := lc) stk1.sh9 h4 (by omega)) rfl (Nat.le_of_ble_eq_true rfl) ⟨by decide, by decide, by decide, by decide⟩ ?_
  refine V_if_ne dX6_dropLoop_11 (fun _ => ?_) (fun z => absurd z ((bI_ne0.mpr e)))
  refine V_aload_n dX6_dropLoop_16 rfl ?_
  refine V_bget dX6_dropLoop_17 fX6_19 (by decide) rfl (by (try simp only [mset_s, mset_n, pk_us, pk_un, ne_eq, Nat.reduceEqDiff, Nat.reduceAdd, not_false_eq_true, not_true_eq_false]) <;> rfl) ?_
  refine V_aload_n dX6_dropLoop_20 rfl ?_
  refine V_bget dX6_dropLoop_21 fX6_12 (by decide) rfl (by (try simp only [mset_s, mset_n, pk_us, pk_un, ne_eq, Nat.reduceEqDiff, Nat.reduceAdd, not_false_eq_true, not_true_eq_false]) <;> rfl) ?_
  refine V_callV dX6_dropLoop_24 kX6_67 ykX0_push (B_at (by decide) rfl) rfl (tX0_push hi h16 hst hop) rfl (Nat.le_of_ble_eq_true rfl) ⟨by decide, by decide, by decide, by decide⟩ ?_
  intro r h' hq
  obtain ⟨C1, rfl, rfl, hP⟩ := hq
  have hP1 := hP.1
  have c : ∀ i, i < 16 → C1 i = C i := fun i h => hP1 i (Or.inl h)
  show V G l RX6 "dropLoop" cX6_dropLoop 2 (some .int) (rmd 5 0 0) E0 (Qm G (Rp G a (.int (nI (lc - 1))) C st (fun C1 => drS C1 10 12 6 n lc)) sz 0 0) sz 0 0 27 [some (.ref (a + 0)), some (.int (nI n))] [] (B G a C1)
  refine V_aload_n dX6_dropLoop_27 rfl ?_
  refine V_bget dX6_dropLoop_28 fX6_12 (by decide) rfl (by (try simp only [mset_s, mset_n, pk_us, pk_un, ne_eq, Nat.reduceEqDiff, Nat.reduceAdd, not_false_eq_true, not_true_eq_false]) <;> rfl) ?_
  refine V_bget dX6_dropLoop_31 fX6_115 (by decide) rfl (by (try simp only [mset_s, mset_n, pk_us, pk_un, ne_eq, Nat.reduceEqDiff, Nat.reduceAdd, not_false_eq_true, not_true_eq_false]) <;> rfl) ?_
  refine V_iload_n dX6_dropLoop_34 rfl ?_
  refine V_callVu dX6_dropLoop_35 kX6_108 ykX3_drop (by decide) rfl rfl (tX3_drop (q := 10) (cnt := lc) stk1.sh9 (by rw [c 10 (by decide)]; exact h4) hn hlc) rfl (Nat.le_of_ble_eq_true rfl) ⟨by decide, by decide, by decide, by decide⟩ ?_
  refine V_aload_n dX6_dropLoop_38 rfl ?_
  refine V_bget dX6_dropLoop_39 fX6_12 (by decide) rfl (by (try simp only [mset_s, mset_n, pk_us, pk_un, ne_eq, Nat.reduceEqDiff, Nat.reduceAdd, not_false_eq_true, not_true_eq_false]) <;> rfl) ?_
  refine V_bget dX6_dropLoop_42 fX6_115 (by decide) rfl (by (try simp only [mset_s, mset_n, pk_us, pk_un, ne_eq, Nat.reduceEqDiff, Nat.reduceAdd, not_false_eq_true, not_true_eq_false]) <;> rfl) ?_
  refine V_bget dX6_dropLoop_45 fX6_78 (by decide) rfl (by (try simp only [mset_s, mset_n, pk_us, pk_un, ne_eq, Nat.reduceEqDiff, Nat.reduceAdd, not_false_eq_true, not_true_eq_false]) <;> rfl) ?_
  refine V_iret dX6_dropLoop_48 rfl rfl rfl ?_
  exact Rp_i (by unfold drS; rw [mset_s, pk_us]) rfl hP
theorem tX6_setTurns_o {lc : Nat} (v t : Int32) (h4 : C 10 0 = nI lc) (hlc : lc ≤ 6) (hx : ¬ isIx v lc) : Ct G l yX6_setTurns cX6_setTurns 4 (some .int) 5 0 0 sz [.ref a, .int v, .int t] (B G a C) (Rw G a (.int (-1)) C) := by
  refine Ct.of (own := RX6) (mn := "setTurns") (L0 := [some (.ref (a + 0)), some (.int v), some (.int t), none]) (by decide +kernel) rfl rfl rfl (Nat.le_of_ble_eq_true rfl) rfl ?_
  refine V_aload_n dX6_setTurns_0 rfl ?_
  refine V_bget dX6_setTurns_1 fX6_12 (by decide) rfl (by (try simp only [mset_s, mset_n, pk_us, pk_un, ne_eq, Nat.reduceEqDiff, Nat.reduceAdd, not_false_eq_true, not_true_eq_false]) <;> rfl) ?_
  refine V_bget dX6_setTurns_4 fX6_115 (by decide) rfl (by (try simp only [mset_s, mset_n, pk_us, pk_un, ne_eq, Nat.reduceEqDiff, Nat.reduceAdd, not_false_eq_true, not_true_eq_false]) <;> rfl) ?_
  refine V_iload_n dX6_setTurns_7 rfl ?_
  refine V_callVw dX6_setTurns_8 kX6_105 ykX3_holds (by decide) rfl rfl (tX3_holds (q := 10) (cnt := lc) stk1.sh9 h4 (by omega)) rfl (Nat.le_of_ble_eq_true rfl) ⟨by decide, by decide, by decide, by decide⟩ ?_
  refine V_if_ne dX6_setTurns_11 (fun z => absurd z (fun z => z (bI_f hx))) (fun _ => ?_)
  refine V_iconst (v := (-1)) dX6_setTurns_14 (by decide) ?_
  refine V_iret dX6_setTurns_15 rfl rfl rfl ?_
  exact Rw_i rfl rfl
theorem tX6_setTurns_r {lc n : Nat} (t : Int32) (h4 : C 10 0 = nI lc) (hlc : lc ≤ 6) (hn : n < lc) (ht : ¬ (1 ≤ t ∧ t ≤ 99)) : Ct G l yX6_setTurns cX6_setTurns 4 (some .int) 5 0 0 sz [.ref a, .int (nI n), .int t] (B G a C) (Rw G a (.int (-2)) C) := by
  have e : isIx (nI n) lc := by unfold isIx; rw [nI_toInt (by omega)]; omega
  refine Ct.of (own := RX6) (mn := "setTurns") (L0 := [some (.ref (a + 0)), some (.int (nI n)), some (.int t), none]) (by decide +kernel) rfl rfl rfl (Nat.le_of_ble_eq_true rfl) rfl ?_
  refine V_aload_n dX6_setTurns_0 rfl ?_
  refine V_bget dX6_setTurns_1 fX6_12 (by decide) rfl (by (try simp only [mset_s, mset_n, pk_us, pk_un, ne_eq, Nat.reduceEqDiff, Nat.reduceAdd, not_false_eq_true, not_true_eq_false]) <;> rfl) ?_
  refine V_bget dX6_setTurns_4 fX6_115 (by decide) rfl (by (try simp only [mset_s, mset_n, pk_us, pk_un, ne_eq, Nat.reduceEqDiff, Nat.reduceAdd, not_false_eq_true, not_true_eq_false]) <;> rfl) ?_
  refine V_iload_n dX6_setTurns_7 rfl ?_
  refine V_callVw dX6_setTurns_8 kX6_105 ykX3_holds (by decide) rfl rfl (tX3_holds (q := 10) (cnt := lc) stk1.sh9 h4 (by omega)) rfl (Nat.le_of_ble_eq_true rfl) ⟨by decide, by decide, by decide, by decide⟩ ?_
  refine V_if_ne dX6_setTurns_11 (fun _ => ?_) (fun z => absurd z ((bI_ne0.mpr e)))
  refine V_iload_n dX6_setTurns_16 rfl ?_
  refine V_callSw dX6_setTurns_17 kX6_128 ykX6_isTurns (tX6_isTurns t) rfl (Nat.le_of_ble_eq_true rfl) ⟨by decide, by decide, by decide, by decide⟩ ?_
  refine V_if_ne dX6_setTurns_20 (fun z => absurd z (fun z => z (bI_f ht))) (fun _ => ?_)
  refine V_bipush (v := (-2)) dX6_setTurns_23 (by decide) ?_
  refine V_iret dX6_setTurns_25 rfl rfl rfl ?_
  exact Rw_i rfl rfl
theorem tX6_setTurns_s {lc n : Nat} (t : Int32) (h4 : C 10 0 = nI lc) (hlc : lc ≤ 6) (hn : n < lc) (ht : 1 ≤ t ∧ t ≤ 99) (hs : C 15 n = t) : Ct G l yX6_setTurns cX6_setTurns 4 (some .int) 5 0 0 sz [.ref a, .int (nI n), .int t] (B G a C) (Rw G a (.int (-5)) C) := by
  have e : isIx (nI n) lc := by unfold isIx; rw [nI_toInt (by omega)]; omega
  refine Ct.of (own := RX6) (mn := "setTurns") (L0 := [some (.ref (a + 0)), some (.int (nI n)), some (.int t), none]) (by decide +kernel) rfl rfl rfl (Nat.le_of_ble_eq_true rfl) rfl ?_
  refine V_aload_n dX6_setTurns_0 rfl ?_
  refine V_bget dX6_setTurns_1 fX6_12 (by decide) rfl (by (try simp only [mset_s, mset_n, pk_us, pk_un, ne_eq, Nat.reduceEqDiff, Nat.reduceAdd, not_false_eq_true, not_true_eq_false]) <;> rfl) ?_
  refine V_bget dX6_setTurns_4 fX6_115 (by decide) rfl (by (try simp only [mset_s, mset_n, pk_us, pk_un, ne_eq, Nat.reduceEqDiff, Nat.reduceAdd, not_false_eq_true, not_true_eq_false]) <;> rfl) ?_
  refine V_iload_n dX6_setTurns_7 rfl ?_
  refine V_callVw dX6_setTurns_8 kX6_105 ykX3_holds (by decide) rfl rfl (tX3_holds (q := 10) (cnt := lc) stk1.sh9 h4 (by omega)) rfl (Nat.le_of_ble_eq_true rfl) ⟨by decide, by decide, by decide, by decide⟩ ?_
  refine V_if_ne dX6_setTurns_11 (fun _ => ?_) (fun z => absurd z ((bI_ne0.mpr e)))
  refine V_iload_n dX6_setTurns_16 rfl ?_
  refine V_callSw dX6_setTurns_17 kX6_128 ykX6_isTurns (tX6_isTurns t) rfl (Nat.le_of_ble_eq_true rfl) ⟨by decide, by decide, by decide, by decide⟩ ?_
  refine V_if_ne dX6_setTurns_20 (fun _ => ?_) (fun z => absurd z ((bI_ne0.mpr ht)))
  refine V_aload_n dX6_setTurns_26 rfl ?_
  refine V_bget dX6_setTurns_27 fX6_12 (by decide) rfl (by (try simp only [mset_s, mset_n, pk_us, pk_un, ne_eq, Nat.reduceEqDiff, Nat.reduceAdd, not_false_eq_true, not_true_eq_false]) <;> rfl) ?_
  refine V_bget dX6_setTurns_30 fX6_115 (by decide) rfl (by (try simp only [mset_s, mset_n, pk_us, pk_un, ne_eq, Nat.reduceEqDiff, Nat.reduceAdd, not_false_eq_true, not_true_eq_false]) <;> rfl) ?_
  refine V_iload_n dX6_setTurns_33 rfl ?_
  refine V_callVw dX6_setTurns_34 kX6_131 ykX3_turnsOf (by decide) rfl rfl (tX3_turnsOf (q := 10) stk1.sh9 (by omega)) rfl (Nat.le_of_ble_eq_true rfl) ⟨by decide, by decide, by decide, by decide⟩ ?_
  refine V_istore_n dX6_setTurns_37 (by decide) (by dsimp only [List.set] <;> rfl) rfl ?_
  refine V_iload_n dX6_setTurns_38 rfl ?_
  refine V_iload_n dX6_setTurns_39 rfl ?_
  refine V_icmp_ne dX6_setTurns_40 (fun z => absurd z (fun z => z hs)) (fun _ => ?_)
  refine V_bipush (v := (-5)) dX6_setTurns_43 (by decide) ?_
  refine V_iret dX6_setTurns_45 rfl rfl rfl ?_
  exact Rw_i rfl rfl
set_option maxHeartbeats 4000000 in
theorem tX6_setTurns {lc n st : Nat} (t : Int32) (h4 : C 10 0 = nI lc) (hlc : lc ≤ 6) (hn : n < lc) (ht : 1 ≤ t ∧ t ≤ 99) (hs : ¬ C 15 n = t) (hi : HiK C) (hst : st ≤ 4) (h16 : C 16 0 = nI st) (hop : C 1 0 = 0 ∨ C 1 0 = 1) : Ct G l yX6_setTurns cX6_setTurns 4 (some .int) 5 0 0 sz [.ref a, .int (nI n), .int t] (B G a C) (Rp G a (.int (C 15 n)) C st (fun C1 => mset C1 15 (upd (C1 15) n t))) := by
  have e : isIx (nI n) lc := by unfold isIx; rw [nI_toInt (by omega)]; omega
  refine Ct.of (own := RX6) (mn := "setTurns") (L0 := [some (.ref (a + 0)), some (.int (nI n)), some (.int t), none]) (by decide +kernel) rfl rfl rfl (Nat.le_of_ble_eq_true rfl) rfl ?_
  refine V_aload_n dX6_setTurns_0 rfl ?_
  refine V_bget dX6_setTurns_1 fX6_12 (by decide) rfl (by (try simp only [mset_s, mset_n, pk_us, pk_un, ne_eq, Nat.reduceEqDiff, Nat.reduceAdd, not_false_eq_true, not_true_eq_false]) <;> rfl) ?_
  refine V_bget dX6_setTurns_4 fX6_115 (by decide) rfl (by (try simp only [mset_s, mset_n, pk_us, pk_un, ne_eq, Nat.reduceEqDiff, Nat.reduceAdd, not_false_eq_true, not_true_eq_false]) <;> rfl) ?_
  refine V_iload_n dX6_setTurns_7 rfl ?_
  refine V_callVw dX6_setTurns_8 kX6_105 ykX3_holds (by decide) rfl rfl (tX3_holds (q := 10) (cnt := lc) stk1.sh9 h4 (by omega)) rfl (Nat.le_of_ble_eq_true rfl) ⟨by decide, by decide, by decide, by decide⟩ ?_
  refine V_if_ne dX6_setTurns_11 (fun _ => ?_) (fun z => absurd z ((bI_ne0.mpr e)))
  refine V_iload_n dX6_setTurns_16 rfl ?_
  refine V_callSw dX6_setTurns_17 kX6_128 ykX6_isTurns (tX6_isTurns t) rfl (Nat.le_of_ble_eq_true rfl) ⟨by decide, by decide, by decide, by decide⟩ ?_
  refine V_if_ne dX6_setTurns_20 (fun _ => ?_) (fun z => absurd z ((bI_ne0.mpr ht)))
  refine V_aload_n dX6_setTurns_26 rfl ?_
  refine V_bget dX6_setTurns_27 fX6_12 (by decide) rfl (by (try simp only [mset_s, mset_n, pk_us, pk_un, ne_eq, Nat.reduceEqDiff, Nat.reduceAdd, not_false_eq_true, not_true_eq_false]) <;> rfl) ?_
  refine V_bget dX6_setTurns_30 fX6_115 (by decide) rfl (by (try simp only [mset_s, mset_n, pk_us, pk_un, ne_eq, Nat.reduceEqDiff, Nat.reduceAdd, not_false_eq_true, not_true_eq_false]) <;> rfl) ?_
  refine V_iload_n dX6_setTurns_33 rfl ?_
  refine V_callVw dX6_setTurns_34 kX6_131 ykX3_turnsOf (by decide) rfl rfl (tX3_turnsOf (q := 10) stk1.sh9 (by omega)) rfl (Nat.le_of_ble_eq_true rfl) ⟨by decide, by decide, by decide, by decide⟩ ?_
  refine V_istore_n dX6_setTurns_37 (by decide) (by dsimp only [List.set] <;> rfl) rfl ?_
  refine V_iload_n dX6_setTurns_38 rfl ?_
  refine V_iload_n dX6_setTurns_39 rfl ?_
  refine V_icmp_ne dX6_setTurns_40 (fun _ => ?_) (fun z => absurd z hs)
  refine V_aload_n dX6_setTurns_46 rfl ?_
  refine V_bget dX6_setTurns_47 fX6_19 (by decide) rfl (by (try simp only [mset_s, mset_n, pk_us, pk_un, ne_eq, Nat.reduceEqDiff, Nat.reduceAdd, not_false_eq_true, not_true_eq_false]) <;> rfl) ?_
  refine V_aload_n dX6_setTurns_50 rfl ?_
  refine V_bget dX6_setTurns_51 fX6_12 (by decide) rfl (by (try simp only [mset_s, mset_n, pk_us, pk_un, ne_eq, Nat.reduceEqDiff, Nat.reduceAdd, not_false_eq_true, not_true_eq_false]) <;> rfl) ?_
  refine V_callV dX6_setTurns_54 kX6_67 ykX0_push (B_at (by decide) rfl) rfl (tX0_push hi h16 hst hop) rfl (Nat.le_of_ble_eq_true rfl) ⟨by decide, by decide, by decide, by decide⟩ ?_
  intro r h' hq
  obtain ⟨C1, rfl, rfl, hP⟩ := hq
  show V G l RX6 "setTurns" cX6_setTurns 4 (some .int) (rmd 5 0 0) E0 (Qm G (Rp G a (.int (C 15 n)) C st (fun C1 => mset C1 15 (upd (C1 15) n t))) sz 0 0) sz 0 0 57 [some (.ref (a + 0)), some (.int (nI n)), some (.int t), some (.int (C (10 + 5) n))] [] (B G a C1)
  refine V_aload_n dX6_setTurns_57 rfl ?_
  refine V_bget dX6_setTurns_58 fX6_12 (by decide) rfl (by (try simp only [mset_s, mset_n, pk_us, pk_un, ne_eq, Nat.reduceEqDiff, Nat.reduceAdd, not_false_eq_true, not_true_eq_false]) <;> rfl) ?_
  refine V_bget dX6_setTurns_61 fX6_115 (by decide) rfl (by (try simp only [mset_s, mset_n, pk_us, pk_un, ne_eq, Nat.reduceEqDiff, Nat.reduceAdd, not_false_eq_true, not_true_eq_false]) <;> rfl) ?_
  refine V_iload_n dX6_setTurns_64 rfl ?_
  refine V_iload_n dX6_setTurns_65 rfl ?_
  refine V_callVu dX6_setTurns_66 kX6_134 ykX3_giveTurns (by decide) rfl rfl (tX3_giveTurns (q := 10) stk1.sh9 (by omega)) rfl (Nat.le_of_ble_eq_true rfl) ⟨by decide, by decide, by decide, by decide⟩ ?_
  refine V_iload_n dX6_setTurns_69 rfl ?_
  refine V_iret dX6_setTurns_70 rfl rfl rfl ?_
  exact Rp_i rfl rfl hP
end CLS
