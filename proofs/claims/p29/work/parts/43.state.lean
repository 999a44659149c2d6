/-! State: openSize, obey, playLoop, copyFrom. -/
def lnB (i : Nat) : Nat := if i = 0 then 5 else if i = 1 ∨ i = 3 ∨ i = 9 then 1 else if i = 2 then 30 else if i < 7 then 72 else if i < 9 then 6 else if i < 13 then 72 else 6
/-- block s of A holds what block s' of C holds -/
def BlE (A : CT) (s : Nat) (C : CT) (s' : Nat) : Prop := ∀ i, i < 15 → ∀ j, j < lnB i → A (s + i) j = C (s' + i) j
def Rcp (G : GT) (a : Nat) (C : CT) (s' s : Nat) : Option Value → Hp → Prop := fun r h' => ∃ C', r = none ∧ h' = B G a C' ∧ (∀ i, (i < s ∨ s + 15 ≤ i) → C' i = C i) ∧ BlE C' s C s'
def obC (C : CT) (hd : Nat) (v : Int32) (m : Nat) : CT := mset (roS C 2 (rowStep (C 3) hd v m)) 1 (upd (upd (C 1) 1 (C 1 1 + 1)) 2 (C 1 2 + (if pStep (C 3) hd v m then 0 else 1)))
def plC (C : CT) (P : PS × Int32) : CT := mset (plR C 2 P.1 P.2) 1 (upd (upd (upd (upd (C 1) 1 (C 1 1 + P.1.2.2.1)) 2 (C 1 2 + f2 P.2)) 3 (C 1 3 + 1)) 4 P.2)
section CLS
variable {G : GT} {l : Launch} {sz a : Nat} {C : CT}
theorem tX4_openSize {tc : Nat} (h : C 4 0 = nI tc) (htc : tc < 6) : Ct G l yX4_openSize cX4_openSize 1 (some .int) 1 0 0 sz [.ref (a + 1)] (B G a C) (Rw G a (.int (C 8 tc)) C) := by
  refine Ct.of (own := RX4) (mn := "openSize") (L0 := [some (.ref (a + 1))]) (by decide +kernel) rfl rfl rfl (Nat.le_of_ble_eq_true rfl) rfl ?_
  refine V_aload_n dX4_openSize_0 rfl ?_
  refine V_bget dX4_openSize_1 fX4_23 (by decide) rfl (by (try simp only [mset_s, mset_n, pk_us, pk_un, ne_eq, Nat.reduceEqDiff, Nat.reduceAdd, not_false_eq_true, not_true_eq_false]) <;> rfl) ?_
  refine V_aload_n dX4_openSize_4 rfl ?_
  refine V_bget dX4_openSize_5 fX4_23 (by decide) rfl (by (try simp only [mset_s, mset_n, pk_us, pk_un, ne_eq, Nat.reduceEqDiff, Nat.reduceAdd, not_false_eq_true, not_true_eq_false]) <;> rfl) ?_
  refine V_bget dX4_openSize_8 fX4_34 (by decide) rfl (by (try simp only [mset_s, mset_n, pk_us, pk_un, ne_eq, Nat.reduceEqDiff, Nat.reduceAdd, not_false_eq_true, not_true_eq_false]) <;> rfl) ?_
  rw [h]
  refine V_callVw dX4_openSize_11 kX4_37 ykX3_sizeOf (by decide) rfl rfl (tX3_sizeOf (q := 4) stk1.sh3 htc) rfl (Nat.le_of_ble_eq_true rfl) ⟨by decide, by decide, by decide, by decide⟩ ?_
  refine V_iret dX4_openSize_14 rfl rfl rfl ?_
  exact Rw_i rfl rfl
set_option maxHeartbeats 4000000 in
theorem tX4_obey {hd m : Nat} {v : Int32} (h0 : C 2 0 = nI hd) (hhd : hd < 30) (hm : v = 3 ∨ v = 4 → m < 30) (hm2 : m < 100) : Ct G l yX4_obey cX4_obey 4 (some .boolean) 3 0 0 sz [.ref (a + 1), .int v, .int (nI m)] (B G a C) (Rw G a (.int (bI (pStep (C 3) hd v m))) (obC C hd v m)) := by
  have r1 : ∀ s, roS C 2 s 1 = C 1 := fun s => roS_n (by decide) (by decide)
  refine Ct.of (own := RX4) (mn := "obey") (L0 := [some (.ref (a + 1)), some (.int v), some (.int (nI m)), none]) (by decide +kernel) rfl rfl rfl (Nat.le_of_ble_eq_true rfl) rfl ?_
  refine V_aload_n dX4_obey_0 rfl ?_
  refine V_bget dX4_obey_1 fX4_12 (by decide) rfl (by (try simp only [mset_s, mset_n, pk_us, pk_un, ne_eq, Nat.reduceEqDiff, Nat.reduceAdd, not_false_eq_true, not_true_eq_false]) <;> rfl) ?_
  refine V_iload_n dX4_obey_4 rfl ?_
  refine V_iload_n dX4_obey_5 rfl ?_
  refine V_callVw dX4_obey_6 kX4_41 ykX2_obey (by decide) rfl rfl (tX2_obey (q := 2) stk1.ro h0 hhd hm hm2) rfl (Nat.le_of_ble_eq_true rfl) ⟨by decide, by decide, by decide, by decide⟩ ?_
  refine V_istore_n dX4_obey_9 (by decide) (by dsimp only [List.set] <;> rfl) rfl ?_
  refine V_aload_n dX4_obey_10 rfl ?_
  refine V_dup dX4_obey_11 rfl ?_
  refine V_bget dX4_obey_12 fX4_45 (by decide) rfl (by (try simp only [mset_s, mset_n, pk_us, pk_un, ne_eq, Nat.reduceEqDiff, Nat.reduceAdd, not_false_eq_true, not_true_eq_false]) <;> rfl) ?_
  rw [r1]
  refine V_iconst (v := 1) dX4_obey_15 (by decide) ?_
  refine V_iadd dX4_obey_16 ?_
  refine V_bputi (i0 := 1) dX4_obey_17 fX4_45 (by decide) rfl rfl rfl (Nat.le_of_ble_eq_true rfl) rfl ?_
  refine V_iload_n dX4_obey_20 rfl ?_
  rw [r1]
  by_cases h : pStep (C 3) hd v m
  · refine V_if_ne dX4_obey_21 (fun _ => ?_) (fun z => absurd z ((bI_ne0.mpr h)))
    refine V_iload_n dX4_obey_34 rfl ?_
    refine V_zret dX4_obey_35 rfl (by first | rfl | exact bI_nar) rfl rfl ?_
    refine Rw_i rfl ?_
    unfold obC
    rw [if_pos h, i_add0, show C 1 2 = upd (C 1) 1 (C 1 1 + 1) 2 from rfl, u_eta]
  · refine V_if_ne dX4_obey_21 (fun z => absurd z (fun z => z (bI_f h))) (fun _ => ?_)
    refine V_aload_n dX4_obey_24 rfl ?_
    refine V_dup dX4_obey_25 rfl ?_
    refine V_bget dX4_obey_26 fX4_48 (by decide) rfl (by (try simp only [mset_s, mset_n, pk_us, pk_un, ne_eq, Nat.reduceEqDiff, Nat.reduceAdd, not_false_eq_true, not_true_eq_false]) <;> rfl) ?_
    refine V_iconst (v := 1) dX4_obey_29 (by decide) ?_
    refine V_iadd dX4_obey_30 ?_
    refine V_bputi (i0 := 2) dX4_obey_31 fX4_48 (by decide) rfl rfl rfl (Nat.le_of_ble_eq_true rfl) rfl ?_
    refine V_iload_n dX4_obey_34 rfl ?_
    refine V_zret dX4_obey_35 rfl (by first | rfl | exact bI_nar) rfl rfl ?_
    refine Rw_i rfl ?_
    unfold obC
    rw [if_neg h, mset_ss]
    simp only [mset_s, mset_ss, mset_n, pk_us, pk_un, uus, ne_eq, Nat.reduceEqDiff, Nat.reduceAdd, not_false_eq_true, not_true_eq_false]
set_option maxHeartbeats 4000000 in
theorem tX4_playLoop {p W N n size T hd : Nat} {c : Nat → Int32} (hs : ShK G a p W N) (hp : p + 5 < 101) (hp2 : 3 < p) (hc : C 3 = c) (h0 : C 2 0 = nI hd) (hhd : hd < 30) (hn : n < N) (hsz : C (p + 4) n = nI size) (hW : size ≤ W) (hT : C (p + 5) n = nI T) (hT2 : T < 2147483648) : Ct G l yX4_playLoop cX4_playLoop 4 (some .int) 5 0 0 sz [.ref (a + 1), .ref (a + 101), .ref (a + p), .int (nI n)] (B G a C) (Rw G a (.int (plBody (shv C p W n) (shn C p W n) (sht C p W n) size T 0 (c, hd, 0, 0)).1.2.2.1) (plC C (plBody (shv C p W n) (shn C p W n) (sht C p W n) size T 0 (c, hd, 0, 0)))) := by
  have ct := tX1_doTurns (G := G) (l := l) (sz := sz) (a := a) (C := C) (q := 2) (p := p) (W := W) (N := N) (n := n) (size := size) (T := T) (hd := hd) (c := c) stk1.ro hs (by decide) hp (by omega) hc h0 hhd hn hsz hW hT2
  obtain ⟨P, hP⟩ : ∃ P, P = plBody (shv C p W n) (shn C p W n) (sht C p W n) size T 0 (c, hd, 0, 0) := ⟨_, rfl⟩
  rw [← hP] at ct ⊢
  have r1 : plR C 2 P.1 P.2 1 = C 1 := plR_n (by decide) (by decide) (by decide)
  have rdo : plR C 2 P.1 P.2 101 0 = P.1.2.2.1 := by rw [plR_p]; rfl
  have rre : plR C 2 P.1 P.2 101 2 = P.2 := by rw [plR_p]; rfl
  have r101 : plR C 2 P.1 P.2 101 = _ := plR_p
  refine Ct.of (own := RX4) (mn := "playLoop") (L0 := [some (.ref (a + 1)), some (.ref (a + 101)), some (.ref (a + p)), some (.int (nI n))]) (by decide +kernel) rfl rfl rfl (Nat.le_of_ble_eq_true rfl) rfl ?_
  refine V_aload_n dX4_playLoop_0 rfl ?_
  refine V_aload_n dX4_playLoop_1 rfl ?_
  refine V_bget dX4_playLoop_2 fX4_12 (by decide) rfl (by (try simp only [mset_s, mset_n, pk_us, pk_un, ne_eq, Nat.reduceEqDiff, Nat.reduceAdd, not_false_eq_true, not_true_eq_false]) <;> rfl) ?_
  refine V_aload_n dX4_playLoop_5 rfl ?_
  refine V_iload_n dX4_playLoop_6 rfl ?_
  refine V_aload_n dX4_playLoop_7 rfl ?_
  refine V_iload_n dX4_playLoop_8 rfl ?_
  refine V_callVw dX4_playLoop_9 kX4_51 ykX3_turnsOf (by have := hs.b; omega) (hs.o _) rfl (tX3_turnsOf hs hn) rfl (Nat.le_of_ble_eq_true rfl) ⟨by decide, by decide, by decide, by decide⟩ ?_
  rw [hT]
  refine V_callVu dX4_playLoop_12 kX4_54 ykX1_doTurns (by decide) rfl rfl ct rfl (Nat.le_of_ble_eq_true rfl) ⟨by decide, by decide, by decide, by decide⟩ ?_
  refine V_aload_n dX4_playLoop_15 rfl ?_
  refine V_dup dX4_playLoop_16 rfl ?_
  refine V_bget dX4_playLoop_17 fX4_45 (by decide) rfl (by (try simp only [mset_s, mset_n, pk_us, pk_un, ne_eq, Nat.reduceEqDiff, Nat.reduceAdd, not_false_eq_true, not_true_eq_false]) <;> rfl) ?_
  rw [r1]
  refine V_aload_n dX4_playLoop_20 rfl ?_
  refine V_bget dX4_playLoop_21 fX4_60 (by decide) rfl (by (try simp only [mset_s, mset_n, pk_us, pk_un, ne_eq, Nat.reduceEqDiff, Nat.reduceAdd, not_false_eq_true, not_true_eq_false]) <;> rfl) ?_
  rw [rdo]
  refine V_iadd dX4_playLoop_24 ?_
  refine V_bputi (i0 := 1) dX4_playLoop_25 fX4_45 (by decide) rfl rfl rfl (Nat.le_of_ble_eq_true rfl) rfl ?_
  refine V_aload_n dX4_playLoop_28 rfl ?_
  refine V_bget dX4_playLoop_29 fX4_63 (by decide) rfl (by (try simp only [mset_s, mset_n, pk_us, pk_un, ne_eq, Nat.reduceEqDiff, Nat.reduceAdd, not_false_eq_true, not_true_eq_false]) <;> rfl) ?_
  rw [rre]
  have fin : ∀ C', C' = plC C P → ∀ L0 L1 L2 L3 : Option Value, C' 101 0 = P.1.2.2.1 → V G l RX4 "playLoop" cX4_playLoop 4 (some .int) (rmd 5 0 0) E0 (Qm G (Rw G a (.int P.1.2.2.1) (plC C P)) sz 0 0) sz 0 0 64 [L0, some (.ref (a + 101)), L2, L3] [] (B G a C') := by
    intro C' e L0 L1 L2 L3 e2
    refine V_aload_n dX4_playLoop_64 rfl ?_
    refine V_bget dX4_playLoop_65 fX4_60 (by decide) rfl (by (try simp only [mset_s, mset_n, pk_us, pk_un, ne_eq, Nat.reduceEqDiff, Nat.reduceAdd, not_false_eq_true, not_true_eq_false]) <;> rfl) ?_
    rw [e2]
    refine V_iret dX4_playLoop_68 rfl rfl rfl ?_
    exact Rw_i rfl e
  by_cases h2 : P.2 = 2
  · refine V_iconst (v := 2) dX4_playLoop_32 (by decide) ?_
    refine V_icmp_ne dX4_playLoop_33 (fun z => absurd z (fun z => z h2)) (fun _ => ?_)
    refine V_aload_n dX4_playLoop_36 rfl ?_
    refine V_dup dX4_playLoop_37 rfl ?_
    refine V_bget dX4_playLoop_38 fX4_48 (by decide) rfl (by (try simp only [mset_s, mset_n, pk_us, pk_un, ne_eq, Nat.reduceEqDiff, Nat.reduceAdd, not_false_eq_true, not_true_eq_false]) <;> rfl) ?_
    refine V_iconst (v := 1) dX4_playLoop_41 (by decide) ?_
    refine V_iadd dX4_playLoop_42 ?_
    refine V_bputi (i0 := 2) dX4_playLoop_43 fX4_48 (by decide) rfl rfl rfl (Nat.le_of_ble_eq_true rfl) rfl ?_
    refine V_aload_n dX4_playLoop_46 rfl ?_
    refine V_dup dX4_playLoop_47 rfl ?_
    refine V_bget dX4_playLoop_48 fX4_66 (by decide) rfl (by (try simp only [mset_s, mset_n, pk_us, pk_un, ne_eq, Nat.reduceEqDiff, Nat.reduceAdd, not_false_eq_true, not_true_eq_false]) <;> rfl) ?_
    refine V_iconst (v := 1) dX4_playLoop_51 (by decide) ?_
    refine V_iadd dX4_playLoop_52 ?_
    refine V_bputi (i0 := 3) dX4_playLoop_53 fX4_66 (by decide) rfl rfl rfl (Nat.le_of_ble_eq_true rfl) rfl ?_
    refine V_aload_n dX4_playLoop_56 rfl ?_
    refine V_aload_n dX4_playLoop_57 rfl ?_
    refine V_bget dX4_playLoop_58 fX4_63 (by decide) rfl (by (try simp only [mset_s, mset_n, pk_us, pk_un, ne_eq, Nat.reduceEqDiff, Nat.reduceAdd, not_false_eq_true, not_true_eq_false]) <;> rfl) ?_
    refine V_bputi (i0 := 4) dX4_playLoop_61 fX4_30 (by decide) rfl rfl rfl (Nat.le_of_ble_eq_true rfl) rfl ?_
    refine fin _ ?_ _ none _ _ ?_
    · unfold plC
      simp only [mset_s, mset_ss, mset_n, pk_us, pk_un, uus, ne_eq, Nat.reduceEqDiff, Nat.reduceAdd, not_false_eq_true, not_true_eq_false]
      rw [r1, rre, f2, if_pos h2]
    · simp only [mset_s, mset_ss, mset_n, pk_us, pk_un, uus, ne_eq, Nat.reduceEqDiff, Nat.reduceAdd, not_false_eq_true, not_true_eq_false]
      exact rdo
  · refine V_iconst (v := 2) dX4_playLoop_32 (by decide) ?_
    refine V_icmp_ne dX4_playLoop_33 (fun _ => ?_) (fun z => absurd z h2)
    refine V_aload_n dX4_playLoop_46 rfl ?_
    refine V_dup dX4_playLoop_47 rfl ?_
    refine V_bget dX4_playLoop_48 fX4_66 (by decide) rfl (by (try simp only [mset_s, mset_n, pk_us, pk_un, ne_eq, Nat.reduceEqDiff, Nat.reduceAdd, not_false_eq_true, not_true_eq_false]) <;> rfl) ?_
    refine V_iconst (v := 1) dX4_playLoop_51 (by decide) ?_
    refine V_iadd dX4_playLoop_52 ?_
    refine V_bputi (i0 := 3) dX4_playLoop_53 fX4_66 (by decide) rfl rfl rfl (Nat.le_of_ble_eq_true rfl) rfl ?_
    refine V_aload_n dX4_playLoop_56 rfl ?_
    refine V_aload_n dX4_playLoop_57 rfl ?_
    refine V_bget dX4_playLoop_58 fX4_63 (by decide) rfl (by (try simp only [mset_s, mset_n, pk_us, pk_un, ne_eq, Nat.reduceEqDiff, Nat.reduceAdd, not_false_eq_true, not_true_eq_false]) <;> rfl) ?_
    refine V_bputi (i0 := 4) dX4_playLoop_61 fX4_30 (by decide) rfl rfl rfl (Nat.le_of_ble_eq_true rfl) rfl ?_
    refine fin _ ?_ _ none _ _ ?_
    · unfold plC
      simp only [mset_s, mset_ss, mset_n, pk_us, pk_un, uus, ne_eq, Nat.reduceEqDiff, Nat.reduceAdd, not_false_eq_true, not_true_eq_false]
      have e2 : ∀ x0 : Int32, upd (upd (C 1) 1 x0) 2 (C 1 2) = upd (C 1) 1 x0 := fun x0 => @u_eta (upd (C 1) 1 x0) 2
      rw [r1, rre, f2, if_neg h2, i_add0, e2]
    · simp only [mset_s, mset_ss, mset_n, pk_us, pk_un, uus, ne_eq, Nat.reduceEqDiff, Nat.reduceAdd, not_false_eq_true, not_true_eq_false]
      exact rdo
set_option maxHeartbeats 4000000 in
theorem tX4_copyFrom {s s' : Nat} (hs : StK G a s) (hs' : StK G a s') (hd : s + 15 ≤ s' ∨ s' + 15 ≤ s) (hop : C s' 0 = 0 ∨ C s' 0 = 1) : Ct G l yX4_copyFrom cX4_copyFrom 2 none 3 0 0 sz [.ref (a + s), .ref (a + s')] (B G a C) (Rcp G a C s' s) := by
  have hb := hs.1
  have hb' := hs'.1
  refine Ct.of (own := RX4) (mn := "copyFrom") (L0 := [some (.ref (a + s)), some (.ref (a + s'))]) (by decide +kernel) rfl rfl rfl (Nat.le_of_ble_eq_true rfl) rfl ?_
  refine V_aload_n dX4_copyFrom_0 rfl ?_
  refine V_bget dX4_copyFrom_1 fX4_12 (by have := hs.1; omega) (hs.o _) (by (try simp only [mset_s, mset_n, pk_us, pk_un, ne_eq, Nat.reduceEqDiff, Nat.reduceAdd, not_false_eq_true, not_true_eq_false]) <;> rfl) ?_
  refine V_aload_n dX4_copyFrom_4 rfl ?_
  refine V_bget dX4_copyFrom_5 fX4_12 (by omega) (hs'.o _) (by (try simp only [mset_s, mset_n, pk_us, pk_un, ne_eq, Nat.reduceEqDiff, Nat.reduceAdd, not_false_eq_true, not_true_eq_false]) <;> rfl) ?_
  refine V_callVu dX4_copyFrom_8 kX4_69 ykX2_copyFrom (by omega) (hs.ro.2.1 _) rfl (tX2_copyFrom hs'.ro hs.ro (by omega)) rfl (Nat.le_of_ble_eq_true rfl) ⟨by decide, by decide, by decide, by decide⟩ ?_
  refine V_aload_n dX4_copyFrom_11 rfl ?_
  refine V_bget dX4_copyFrom_12 fX4_23 (by have := hs.1; omega) (hs.o _) (by (try simp only [mset_s, mset_n, pk_us, pk_un, ne_eq, Nat.reduceEqDiff, Nat.reduceAdd, not_false_eq_true, not_true_eq_false]) <;> rfl) ?_
  refine V_aload_n dX4_copyFrom_15 rfl ?_
  refine V_bget dX4_copyFrom_16 fX4_23 (by omega) (hs'.o _) (by (try simp only [mset_s, mset_n, pk_us, pk_un, ne_eq, Nat.reduceEqDiff, Nat.reduceAdd, not_false_eq_true, not_true_eq_false]) <;> rfl) ?_
  refine V_callVu dX4_copyFrom_19 kX4_73 ykX3_copyFrom (by omega) (hs.sh3.o _) rfl (tX3_copyFrom hs'.sh3 hs.sh3 (by omega)) rfl (Nat.le_of_ble_eq_true rfl) ⟨by decide, by decide, by decide, by decide⟩ ?_
  refine V_aload_n dX4_copyFrom_22 rfl ?_
  refine V_bget dX4_copyFrom_23 fX4_27 (by have := hs.1; omega) (hs.o _) (by (try simp only [mset_s, mset_n, pk_us, pk_un, ne_eq, Nat.reduceEqDiff, Nat.reduceAdd, not_false_eq_true, not_true_eq_false]) <;> rfl) ?_
  refine V_aload_n dX4_copyFrom_26 rfl ?_
  refine V_bget dX4_copyFrom_27 fX4_27 (by omega) (hs'.o _) (by (try simp only [mset_s, mset_n, pk_us, pk_un, ne_eq, Nat.reduceEqDiff, Nat.reduceAdd, not_false_eq_true, not_true_eq_false]) <;> rfl) ?_
  refine V_callVu dX4_copyFrom_30 kX4_73 ykX3_copyFrom (by omega) (hs.sh9.o _) rfl (tX3_copyFrom hs'.sh9 hs.sh9 (by omega)) rfl (Nat.le_of_ble_eq_true rfl) ⟨by decide, by decide, by decide, by decide⟩ ?_
  refine V_aload_n dX4_copyFrom_33 rfl ?_
  refine V_aload_n dX4_copyFrom_34 rfl ?_
  refine V_bget dX4_copyFrom_35 fX4_76 (by omega) (hs'.o _) (by (try simp only [mset_s, mset_n, pk_us, pk_un, ne_eq, Nat.reduceEqDiff, Nat.reduceAdd, not_false_eq_true, not_true_eq_false]) <;> rfl) ?_
  refine V_toe (x := _) (y := bI (C s' 0 = 1)) ?_ ?_
  · have e : ∀ x : Int32, x = 0 ∨ x = 1 → x = bI (x = 1) := by rintro x (z | z) <;> rw [z] <;> rfl
    rw [← e _ hop]
    unfold cpS
    simp (discharger := omega) only [mset_n]
  refine V_bputi (i0 := 0) dX4_copyFrom_38 fX4_76 (by have := hs.1; omega) (hs.o _) (by first | rfl | exact bI_nar) (by first | rfl | exact bI_fit) (Nat.le_of_ble_eq_true rfl) (hs.o _) ?_
  refine V_aload_n dX4_copyFrom_41 rfl ?_
  refine V_aload_n dX4_copyFrom_42 rfl ?_
  refine V_bget dX4_copyFrom_43 fX4_45 (by omega) (hs'.o _) (by (try simp only [mset_s, mset_n, pk_us, pk_un, ne_eq, Nat.reduceEqDiff, Nat.reduceAdd, not_false_eq_true, not_true_eq_false]) <;> rfl) ?_
  refine V_bputi (i0 := 1) dX4_copyFrom_46 fX4_45 (by have := hs.1; omega) (hs.o _) rfl rfl (Nat.le_of_ble_eq_true rfl) (hs.o _) ?_
  refine V_aload_n dX4_copyFrom_49 rfl ?_
  refine V_aload_n dX4_copyFrom_50 rfl ?_
  refine V_bget dX4_copyFrom_51 fX4_48 (by omega) (hs'.o _) (by (try simp only [mset_s, mset_n, pk_us, pk_un, ne_eq, Nat.reduceEqDiff, Nat.reduceAdd, not_false_eq_true, not_true_eq_false]) <;> rfl) ?_
  refine V_bputi (i0 := 2) dX4_copyFrom_54 fX4_48 (by have := hs.1; omega) (hs.o _) rfl rfl (Nat.le_of_ble_eq_true rfl) (hs.o _) ?_
  refine V_aload_n dX4_copyFrom_57 rfl ?_
  refine V_aload_n dX4_copyFrom_58 rfl ?_
  refine V_bget dX4_copyFrom_59 fX4_66 (by omega) (hs'.o _) (by (try simp only [mset_s, mset_n, pk_us, pk_un, ne_eq, Nat.reduceEqDiff, Nat.reduceAdd, not_false_eq_true, not_true_eq_false]) <;> rfl) ?_
  refine V_bputi (i0 := 3) dX4_copyFrom_62 fX4_66 (by have := hs.1; omega) (hs.o _) rfl rfl (Nat.le_of_ble_eq_true rfl) (hs.o _) ?_
  refine V_aload_n dX4_copyFrom_65 rfl ?_
  refine V_aload_n dX4_copyFrom_66 rfl ?_
  refine V_bget dX4_copyFrom_67 fX4_30 (by omega) (hs'.o _) (by (try simp only [mset_s, mset_n, pk_us, pk_un, ne_eq, Nat.reduceEqDiff, Nat.reduceAdd, not_false_eq_true, not_true_eq_false]) <;> rfl) ?_
  refine V_bputi (i0 := 4) dX4_copyFrom_70 fX4_30 (by have := hs.1; omega) (hs.o _) rfl rfl (Nat.le_of_ble_eq_true rfl) (hs.o _) ?_
  refine V_vret dX4_copyFrom_73 rfl rfl rfl ?_
  refine ⟨_, rfl, rfl, fun i hi => ?_, ?_⟩
  · unfold cpS
    simp (discharger := omega) only [mset_n]
  · unfold cpS BlE
    simp only [Nat.add_assoc, Nat.reduceAdd]
    refine lt15 ?_ ?_ ?_ ?_ ?_ ?_ ?_ ?_ ?_ ?_ ?_ ?_ ?_ ?_ ?_
    · intro j hj
      have hj5 : j < 5 := hj
      simp (discharger := omega) only [Nat.add_zero, mset_n, mset_s]
      rcases (show j = 0 ∨ j = 1 ∨ j = 2 ∨ j = 3 ∨ j = 4 by omega) with z | z | z | z | z <;> subst z
      · simp (discharger := omega) only [pk_us, pk_un]
        rcases hop with z | z <;> rw [z] <;> rfl
      all_goals simp (discharger := omega) only [pk_us, pk_un]
    all_goals
      intro j hj
      simp (discharger := omega) only [mset_n, mset_s]
      first
      | exact cpy_full hj
      | (obtain rfl : j = 0 := by (have : j < 1 := hj); omega
         rfl)
end CLS
