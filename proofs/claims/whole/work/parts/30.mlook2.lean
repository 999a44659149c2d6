/-! TryLoopsModel: ifPlayed, fewestTurns, alike. -/
/-- behind a rehearsal of the model: all is as it was, but for scratch -/
theorem SC_reh {C C1 : CT} (hz : ∀ j, j < 441 → C1 106 j = C 106 j) (h5 : ∀ j, j ≠ 3 → j ≠ 4 → C1 105 j = C 105 j) (ho : ∀ i, i ≠ 105 → i ≠ 106 → i ≠ 107 → i ≠ 111 → i ≠ 112 → i ≠ 113 → C1 i = C i) : SC C C1 :=
  ⟨hz, h5, fun j _ => by rw [ho 93 (by decide) (by decide) (by decide) (by decide) (by decide) (by decide)], fun i hi => ho i (scr_ne rfl hi) (scr_ne rfl hi) (scr_ne rfl hi) (scr_ne rfl hi) (scr_ne rfl hi) (scr_ne rfl hi)⟩
/-- the model's world with a body taken, its row of numbers z1 and its spare row sp -/
def mReh (C : CT) (n len : Nat) (sp z1 : Nat → Int32) : CT := mset (mBody (mset C 107 sp) n len) 106 z1
theorem mReh_z {C : CT} {n len : Nat} {sp z1 z2 : Nat → Int32} : mset (mReh C n len sp z1) 106 z2 = mReh C n len sp z2 := by unfold mReh; rw [mset_ss]
theorem SC_mReh {C : CT} {n len : Nat} {sp z1 : Nat → Int32} (h : ∀ j, j < 441 → z1 j = C 106 j) : SC C (mReh C n len sp z1) := by
  refine SC_reh (fun j hj => h j hj) (fun j h3 _ => ?_) (fun i a5 a6 a7 b1 b2 b3 => ?_)
  · show upd (C 105) 3 (nI len) j = C 105 j
    exact pk_un h3
  · unfold mReh
    rw [mset_n a6]
    unfold mBody mTB
    rw [if_neg a5, if_neg b1, if_neg b2, if_neg b3, mset_n a7]
def fewF (bv bn bs : Nat → Int32) (size cl : Nat) (v : Int32) : Nat → Nat → PS → Int32
  | 0, _, _ => -5
  | m + 1, t, s =>
    if (plTurn bv bn bs (nI t) size 0 s).1.1 cl = v then nI (t + 1)
    else if (plTurn bv bn bs (nI t) size 0 s).2 = 0 then fewF bv bn bs size cl v m (t + 1) (plTurn bv bn bs (nI t) size 0 s).1
    else -5
theorem fewF_congr {bv bn bs bv' bn' bs' : Nat → Int32} {size cl : Nat} {v : Int32} (h : ∀ j, j < size → bv j = bv' j ∧ bn j = bn' j ∧ bs j = bs' j) : ∀ (m t : Nat) (s : PS), fewF bv bn bs size cl v m t s = fewF bv' bn' bs' size cl v m t s := by
  intro m
  induction m with
  | zero => intro t s; rfl
  | succ m ih =>
    intro t s
    simp only [fewF]
    rw [plTurn_congr size 0 s (fun j hj => h j (by omega)), ih]
def lcsR (prev : Nat → Int32) (e : Nat → Bool) : Nat → Int32
  | 0 => 0
  | k + 1 => if e k = true then prev k + 1 else if prev (k + 1) < lcsR prev e k then lcsR prev e k else prev (k + 1)
def lcsF (e : Nat → Nat → Bool) : Nat → Nat → Int32
  | 0 => fun _ => 0
  | i + 1 => lcsR (lcsF e i) (e i)
def eqM (z : Nat → Int32) (i j : Nat) (w : Int32) (p q : Nat) : Bool := decide (z (38 + 25 * i + 1 + 2 * p) = z (38 + 25 * j + 1 + 2 * q) ∧ (w = 0 ∨ z (38 + 25 * i + 2 + 2 * p) = z (38 + 25 * j + 2 + 2 * q)))
section MODEL
variable {G : GT} {l : Launch} {sz a : Nat} {C : CT}
set_option maxHeartbeats 4000000 in
theorem tX7_ifPlayed_o {lc : Nat} (x1 x2 x3 : Int32) (h33 : C 106 33 = nI lc) (hlc : lc ≤ 6) (hx : ¬ isIx x1 lc) : Ct G l yX7_ifPlayed cX7_ifPlayed 7 (some .int) 4 0 0 sz [.ref (a + 105), .int x1, .int x2, .int x3] (B G a C) (Rw G a (.int (-1)) C) := by
  refine Ct.of (own := RX7) (mn := "ifPlayed") (L0 := [some (.ref (a + 105)), some (.int x1), some (.int x2), some (.int x3), none, none, none]) (by decide +kernel) rfl rfl rfl (Nat.le_of_ble_eq_true rfl) rfl ?_
  refine V_aload_n dX7_ifPlayed_0 rfl ?_
  refine V_iload_n dX7_ifPlayed_1 rfl ?_
  refine V_callVw dX7_ifPlayed_2 kX7_92 ykX7_isLoop (by decide) rfl rfl (tX7_isLoop _ h33 (by omega)) rfl (Nat.le_of_ble_eq_true rfl) ⟨by decide, by decide, by decide, by decide⟩ ?_
  refine V_if_ne dX7_ifPlayed_5 (fun z => absurd z (fun z => z (bI_f hx))) (fun _ => ?_)
  refine V_iconst (v := (-1)) dX7_ifPlayed_8 (by decide) ?_
  refine V_iret dX7_ifPlayed_9 rfl rfl rfl ?_
  exact Rw_i rfl rfl
set_option maxHeartbeats 4000000 in
theorem tX7_ifPlayed_r {lc n : Nat} (x2 x3 : Int32) (h33 : C 106 33 = nI lc) (hlc : lc ≤ 6) (hn : n < lc) (hx : ¬ ((1 ≤ x2 ∧ x2 ≤ 99) ∧ (0 ≤ x3 ∧ x3 ≤ 4))) : Ct G l yX7_ifPlayed cX7_ifPlayed 7 (some .int) 4 0 0 sz [.ref (a + 105), .int (nI n), .int x2, .int x3] (B G a C) (Rw G a (.int (-2)) C) := by
  refine Ct.of (own := RX7) (mn := "ifPlayed") (L0 := [some (.ref (a + 105)), some (.int (nI n)), some (.int x2), some (.int x3), none, none, none]) (by decide +kernel) rfl rfl rfl (Nat.le_of_ble_eq_true rfl) rfl ?_
  refine V_aload_n dX7_ifPlayed_0 rfl ?_
  refine V_iload_n dX7_ifPlayed_1 rfl ?_
  refine V_callVw dX7_ifPlayed_2 kX7_92 ykX7_isLoop (by decide) rfl rfl (tX7_isLoop _ h33 (by omega)) rfl (Nat.le_of_ble_eq_true rfl) ⟨by decide, by decide, by decide, by decide⟩ ?_
  refine V_if_ne dX7_ifPlayed_5 (fun _ => ?_) (fun z => absurd z ((bI_ne0.mpr (isIx_nI hn (by omega)))))
  refine V_iload_n dX7_ifPlayed_10 rfl ?_
  refine V_iconst (v := 1) dX7_ifPlayed_11 (by decide) ?_
  refine V_bipush (v := 99) dX7_ifPlayed_12 (by decide) ?_
  refine V_callSw dX7_ifPlayed_14 kX7_37 ykX7_in (tX7_in _ _ _) rfl (Nat.le_of_ble_eq_true rfl) ⟨by decide, by decide, by decide, by decide⟩ ?_
  by_cases h2 : 1 ≤ x2 ∧ x2 ≤ 99
  · refine V_if_eq dX7_ifPlayed_17 (fun z => absurd z (bI_ne0.mpr h2)) (fun _ => ?_)
    refine V_iload_n dX7_ifPlayed_20 rfl ?_
    refine V_iconst (v := 0) dX7_ifPlayed_21 (by decide) ?_
    refine V_iconst (v := 4) dX7_ifPlayed_22 (by decide) ?_
    refine V_callSw dX7_ifPlayed_23 kX7_37 ykX7_in (tX7_in _ _ _) rfl (Nat.le_of_ble_eq_true rfl) ⟨by decide, by decide, by decide, by decide⟩ ?_
    refine V_if_ne dX7_ifPlayed_26 (fun z => absurd z (fun z => z (bI_f (fun q => hx ⟨h2, q⟩)))) (fun _ => ?_)
    refine V_bipush (v := (-2)) dX7_ifPlayed_29 (by decide) ?_
    refine V_iret dX7_ifPlayed_31 rfl rfl rfl ?_
    exact Rw_i rfl rfl
  · refine V_if_eq dX7_ifPlayed_17 (fun _ => ?_) (fun z => absurd (bI_f h2) z)
    refine V_bipush (v := (-2)) dX7_ifPlayed_29 (by decide) ?_
    refine V_iret dX7_ifPlayed_31 rfl rfl rfl ?_
    exact Rw_i rfl rfl
set_option maxHeartbeats 4000000 in
theorem tX7_ifPlayed {lc n len T hd : Nat} {c : Nat → Int32} (x3 : Int32) (h33 : C 106 33 = nI lc) (hlc : lc ≤ 6) (hn : n < lc) (hl : C 106 (213 + 38 * n) = nI len) (hlen : len ≤ 12) (h1 : 1 ≤ len) (hT : 1 ≤ T ∧ T ≤ 99) (hx3 : 0 ≤ x3 ∧ x3 ≤ 4) (hc : ∀ j, j < 30 → C 106 j = c j) (h30 : C 106 30 = nI hd) (hhd : hd < 30) (hv : ∀ k, k < len → verbOK (lvM (C 106) n k)) : Ct G l yX7_ifPlayed cX7_ifPlayed 7 (some .int) 4 0 0 sz [.ref (a + 105), .int (nI n), .int (nI T), .int x3] (B G a C) (Rs G a (.int (if x3 = 0 then (plM (C 106) n len T (c, hd, 0, 0)).1.2.2.1 else if x3 = 1 then (plM (C 106) n len T (c, hd, 0, 0)).2 else if x3 = 2 then sumF (plM (C 106) n len T (c, hd, 0, 0)).1.1 30 else if x3 = 3 then nI (plM (C 106) n len T (c, hd, 0, 0)).1.2.1 else (plM (C 106) n len T (c, hd, 0, 0)).1.2.2.2)) C) := by
  have hT1 : (1 : Int32) ≤ nI T ∧ nI T ≤ 99 := ⟨(cle nlit rfl (by omega) (by omega)).mpr hT.1, (cle rfl nlit (by omega) (by omega)).mpr hT.2⟩
  refine Ct.of (own := RX7) (mn := "ifPlayed") (L0 := [some (.ref (a + 105)), some (.int (nI n)), some (.int (nI T)), some (.int x3), none, none, none]) (by decide +kernel) rfl rfl rfl (Nat.le_of_ble_eq_true rfl) rfl ?_
  refine V_aload_n dX7_ifPlayed_0 rfl ?_
  refine V_iload_n dX7_ifPlayed_1 rfl ?_
  refine V_callVw dX7_ifPlayed_2 kX7_92 ykX7_isLoop (by decide) rfl rfl (tX7_isLoop _ h33 (by omega)) rfl (Nat.le_of_ble_eq_true rfl) ⟨by decide, by decide, by decide, by decide⟩ ?_
  refine V_if_ne dX7_ifPlayed_5 (fun _ => ?_) (fun z => absurd z ((bI_ne0.mpr (isIx_nI hn (by omega)))))
  refine V_iload_n dX7_ifPlayed_10 rfl ?_
  refine V_iconst (v := 1) dX7_ifPlayed_11 (by decide) ?_
  refine V_bipush (v := 99) dX7_ifPlayed_12 (by decide) ?_
  refine V_callSw dX7_ifPlayed_14 kX7_37 ykX7_in (tX7_in _ _ _) rfl (Nat.le_of_ble_eq_true rfl) ⟨by decide, by decide, by decide, by decide⟩ ?_
  refine V_if_eq dX7_ifPlayed_17 (fun z => absurd z (bI_ne0.mpr hT1)) (fun _ => ?_)
  refine V_iload_n dX7_ifPlayed_20 rfl ?_
  refine V_iconst (v := 0) dX7_ifPlayed_21 (by decide) ?_
  refine V_iconst (v := 4) dX7_ifPlayed_22 (by decide) ?_
  refine V_callSw dX7_ifPlayed_23 kX7_37 ykX7_in (tX7_in _ _ _) rfl (Nat.le_of_ble_eq_true rfl) ⟨by decide, by decide, by decide, by decide⟩ ?_
  refine V_if_ne dX7_ifPlayed_26 (fun _ => ?_) (fun z => absurd z ((bI_ne0.mpr hx3)))
  refine V_aload_n dX7_ifPlayed_32 rfl ?_
  refine V_bget dX7_ifPlayed_33 fX7_7 (by decide) rfl (by (try simp only [mset_s, mset_n, pk_us, pk_un, ne_eq, Nat.reduceEqDiff, Nat.reduceAdd, not_false_eq_true, not_true_eq_false]) <;> rfl) ?_
  refine V_iconst (v := 0) dX7_ifPlayed_36 (by decide) ?_
  refine V_aload_n dX7_ifPlayed_37 rfl ?_
  refine V_bget dX7_ifPlayed_38 fX7_13 (by decide) rfl (by (try simp only [mset_s, mset_n, pk_us, pk_un, ne_eq, Nat.reduceEqDiff, Nat.reduceAdd, not_false_eq_true, not_true_eq_false]) <;> rfl) ?_
  refine V_iconst (v := 0) dX7_ifPlayed_41 (by decide) ?_
  refine V_callSu dX7_ifPlayed_42 kX7_45 ykX7_copyState (tX7_copyState (p := 106) (q := 107) (u := 0) (v := 0) (np := 441) (nq := 441) (by decide) (by decide) (fun _ => rfl) (fun _ => rfl) (by decide) (by omega) (by omega) (by decide) (by decide)) rfl (Nat.le_of_ble_eq_true rfl) ⟨by decide, by decide, by decide, by decide⟩ ?_
  refine V_aload_n dX7_ifPlayed_45 rfl ?_
  refine V_iload_n dX7_ifPlayed_46 rfl ?_
  refine V_iload_n dX7_ifPlayed_47 rfl ?_
  generalize hsp : va_cpy (C 106) (C 107) 0 0 441 = sp
  have sp_at : ∀ j, j < 441 → sp j = C 106 j := fun j hj => by
    rw [← hsp]
    unfold va_cpy
    rw [if_pos (by omega)]
    congr 1
    omega
  refine V_callVu dX7_ifPlayed_48 kX7_108 ykX7_playLoop (by decide) rfl rfl (tX7_playLoop (C := mset C 107 sp) (z0 := C 106) (s := (c, hd, 0, 0)) (fl := 0) (by exact (zOf_0 hc h30).symm) hhd (by omega) hl hlen (by omega)) rfl (Nat.le_of_ble_eq_true rfl) ⟨by decide, by decide, by decide, by decide⟩ ?_
  have eP : plM (mset C 107 sp 106) n len T (c, hd, 0, 0) = plM (C 106) n len T (c, hd, 0, 0) := rfl
  rw [eP]
  have cnt := plBody_cnt (bn := lnM (C 106) n) (bs := lsM (C 106) n) hv T 0 (c, hd, 0, 0) rfl rfl
  have rs3 := plBody_rs (bv := lvM (C 106) n) (bn := lnM (C 106) n) (bs := lsM (C 106) n) (size := len) T 0 (c, hd, 0, 0)
  obtain ⟨P, hP⟩ : ∃ P, P = plM (C 106) n len T (c, hd, 0, 0) := ⟨_, rfl⟩
  rw [← hP]
  rw [show plBody (lvM (C 106) n) (lnM (C 106) n) (lsM (C 106) n) len T 0 (c, hd, 0, 0) = P from hP.symm] at cnt rs3
  obtain ⟨d, d1, d2, d3⟩ := cnt
  have hd' : d ≤ 12 * 99 := Nat.le_trans d1 (by rw [Nat.zero_add]; exact Nat.mul_le_mul hlen hT.2)
  have hW : mset (mBody (mset C 107 sp) n len) 106 (zPl (C 106) P 0) = mReh C n len sp (zPl (C 106) P 0) := rfl
  rw [hW]
  have z34 : mReh C n len sp (zPl (C 106) P 0) 106 34 = C 106 34 + P.1.2.2.1 := by
    show zPl (C 106) P 0 34 = _
    unfold zPl; rw [pk_un (by decide), pk_un (by decide), zPS_34]
  have z35 : mReh C n len sp (zPl (C 106) P 0) 106 35 = C 106 35 + f2 P.2 := by
    show zPl (C 106) P 0 35 = _
    unfold zPl; rw [pk_un (by decide), pk_un (by decide), zPS_35, Int32.zero_add]
  have z37 : mReh C n len sp (zPl (C 106) P 0) 106 37 = P.2 := by
    show zPl (C 106) P 0 37 = _
    unfold zPl; rw [pk_us]
  have z30 : mReh C n len sp (zPl (C 106) P 0) 106 30 = nI P.1.2.1 := by
    show zPl (C 106) P 0 30 = _
    unfold zPl; rw [pk_un (by decide), pk_un (by decide), zPS_30]
  have zc : ∀ k, k ≤ 30 → sumF (mReh C n len sp (zPl (C 106) P 0) 106) k = sumF P.1.1 k := by
    intro k
    induction k with
    | zero => intro _; rfl
    | succ k ih =>
      intro hk
      rw [sumF, sumF, ih (by omega)]
      congr 1
      show zPl (C 106) P 0 k = _
      unfold zPl; rw [pk_un (by omega), pk_un (by omega), zPS_c (by omega)]
  have s34 : mReh C n len sp (zPl (C 106) P 0) 107 34 = C 106 34 := sp_at 34 (by decide)
  have s35 : mReh C n len sp (zPl (C 106) P 0) 107 35 = C 106 35 := sp_at 35 (by decide)
  have e5 : mReh C n len sp (zPl (C 106) P 0) 105 3 = nI len := rfl
  have et : testN (mReh C n len sp (zPl (C 106) P 0) 111) len d = testN (lvM (C 106) n) len d := by
    have : ∀ k, testN (mReh C n len sp (zPl (C 106) P 0) 111) len k = testN (lvM (C 106) n) len k := by
      intro k
      induction k with
      | zero => rfl
      | succ k ih =>
        rw [testN, testN, ih]
        have : mReh C n len sp (zPl (C 106) P 0) 111 (k % len) = lvM (C 106) n (k % len) := tbF_at (Nat.mod_lt _ (by omega))
        rw [this]
    exact this d
  refine V_aload_n dX7_ifPlayed_51 rfl ?_
  refine V_bget dX7_ifPlayed_52 fX7_7 (by decide) rfl (by (try simp only [mset_s, mset_n, pk_us, pk_un, ne_eq, Nat.reduceEqDiff, Nat.reduceAdd, not_false_eq_true, not_true_eq_false]) <;> rfl) ?_
  refine V_bipush (v := 34) dX7_ifPlayed_55 (by decide) ?_
  refine V_biald dX7_ifPlayed_57 (by decide) rfl (by repeat (first | with_reducible rfl | with_reducible exact nlit | with_reducible apply nadd | with_reducible apply nmul | with_reducible apply nsub | with_reducible assumption | omega)) (by omega) (by first | decide | omega) (by (try simp only [mset_s, mset_n, pk_us, pk_un, ne_eq, Nat.reduceEqDiff, Nat.reduceAdd, not_false_eq_true, not_true_eq_false]) <;> rfl) ?_
  rw [z34]
  refine V_aload_n dX7_ifPlayed_58 rfl ?_
  refine V_bget dX7_ifPlayed_59 fX7_13 (by decide) rfl (by (try simp only [mset_s, mset_n, pk_us, pk_un, ne_eq, Nat.reduceEqDiff, Nat.reduceAdd, not_false_eq_true, not_true_eq_false]) <;> rfl) ?_
  refine V_bipush (v := 34) dX7_ifPlayed_62 (by decide) ?_
  refine V_biald dX7_ifPlayed_64 (by decide) rfl (by repeat (first | with_reducible rfl | with_reducible exact nlit | with_reducible apply nadd | with_reducible apply nmul | with_reducible apply nsub | with_reducible assumption | omega)) (by omega) (by first | decide | omega) (by (try simp only [mset_s, mset_n, pk_us, pk_un, ne_eq, Nat.reduceEqDiff, Nat.reduceAdd, not_false_eq_true, not_true_eq_false]) <;> rfl) ?_
  rw [s34]
  refine V_isub dX7_ifPlayed_65 ?_
  rw [sub_had, d2]
  refine V_istore dX7_ifPlayed_66 (by decide) (by dsimp only [List.set] <;> rfl) ?_
  refine V_aload_n dX7_ifPlayed_68 rfl ?_
  refine V_iload dX7_ifPlayed_69 rfl ?_
  refine V_callVw dX7_ifPlayed_71 kX7_150 ykX7_tests (by decide) rfl rfl (tX7_tests e5 h1 (by omega) (by omega)) rfl (Nat.le_of_ble_eq_true rfl) ⟨by decide, by decide, by decide, by decide⟩ ?_
  refine V_aload_n dX7_ifPlayed_74 rfl ?_
  refine V_bget dX7_ifPlayed_75 fX7_7 (by decide) rfl (by (try simp only [mset_s, mset_n, pk_us, pk_un, ne_eq, Nat.reduceEqDiff, Nat.reduceAdd, not_false_eq_true, not_true_eq_false]) <;> rfl) ?_
  refine V_bipush (v := 35) dX7_ifPlayed_78 (by decide) ?_
  refine V_biald dX7_ifPlayed_80 (by decide) rfl (by repeat (first | with_reducible rfl | with_reducible exact nlit | with_reducible apply nadd | with_reducible apply nmul | with_reducible apply nsub | with_reducible assumption | omega)) (by omega) (by first | decide | omega) (by (try simp only [mset_s, mset_n, pk_us, pk_un, ne_eq, Nat.reduceEqDiff, Nat.reduceAdd, not_false_eq_true, not_true_eq_false]) <;> rfl) ?_
  rw [z35, et]
  refine V_isub dX7_ifPlayed_81 ?_
  refine V_aload_n dX7_ifPlayed_82 rfl ?_
  refine V_bget dX7_ifPlayed_83 fX7_13 (by decide) rfl (by (try simp only [mset_s, mset_n, pk_us, pk_un, ne_eq, Nat.reduceEqDiff, Nat.reduceAdd, not_false_eq_true, not_true_eq_false]) <;> rfl) ?_
  refine V_bipush (v := 35) dX7_ifPlayed_86 (by decide) ?_
  refine V_biald dX7_ifPlayed_88 (by decide) rfl (by repeat (first | with_reducible rfl | with_reducible exact nlit | with_reducible apply nadd | with_reducible apply nmul | with_reducible apply nsub | with_reducible assumption | omega)) (by omega) (by first | decide | omega) (by (try simp only [mset_s, mset_n, pk_us, pk_un, ne_eq, Nat.reduceEqDiff, Nat.reduceAdd, not_false_eq_true, not_true_eq_false]) <;> rfl) ?_
  rw [s35]
  refine V_iadd dX7_ifPlayed_89 ?_
  have ep : testN (lvM (C 106) n) len d - (C 106 35 + f2 P.2) + C 106 35 = P.1.2.2.2 := by
    rw [← d3]
    generalize P.1.2.2.2 = p1
    generalize f2 P.2 = p2
    generalize C 106 35 = p3
    rw [Int32.add_comm p3 p2, ← Int32.sub_sub, Int32.add_sub_cancel, Int32.sub_add_cancel]
  rw [ep]
  refine V_istore dX7_ifPlayed_90 (by decide) (by dsimp only [List.set] <;> rfl) ?_
  have fin : ∀ w : Int32, w = (if x3 = 0 then P.1.2.2.1 else if x3 = 1 then P.2 else if x3 = 2 then sumF P.1.1 30 else if x3 = 3 then nI P.1.2.1 else P.1.2.2.2) → V G l RX7 "ifPlayed" cX7_ifPlayed 7 (some .int) (rmd 4 0 0) E0 (Qm G (Rs G a (.int (if x3 = 0 then (plM (C 106) n len T (c, hd, 0, 0)).1.2.2.1 else if x3 = 1 then (plM (C 106) n len T (c, hd, 0, 0)).2 else if x3 = 2 then sumF (plM (C 106) n len T (c, hd, 0, 0)).1.1 30 else if x3 = 3 then nI (plM (C 106) n len T (c, hd, 0, 0)).1.2.1 else (plM (C 106) n len T (c, hd, 0, 0)).1.2.2.2)) C) sz 0 0) sz 0 0 145 [some (.ref (a + 105)), some (.int (nI n)), some (.int (nI T)), some (.int x3), some (.int (nI d)), some (.int P.1.2.2.2), none] [.int w] (B G a (mReh C n len sp (zPl (C 106) P 0))) := by
    intro w hw
    rw [← hP]
    refine V_istore dX7_ifPlayed_145 (by decide) (by dsimp only [List.set] <;> rfl) ?_
    refine V_aload_n dX7_ifPlayed_147 rfl ?_
    refine V_bget dX7_ifPlayed_148 fX7_13 (by decide) rfl (by (try simp only [mset_s, mset_n, pk_us, pk_un, ne_eq, Nat.reduceEqDiff, Nat.reduceAdd, not_false_eq_true, not_true_eq_false]) <;> rfl) ?_
    refine V_iconst (v := 0) dX7_ifPlayed_151 (by decide) ?_
    refine V_aload_n dX7_ifPlayed_152 rfl ?_
    refine V_bget dX7_ifPlayed_153 fX7_7 (by decide) rfl (by (try simp only [mset_s, mset_n, pk_us, pk_un, ne_eq, Nat.reduceEqDiff, Nat.reduceAdd, not_false_eq_true, not_true_eq_false]) <;> rfl) ?_
    refine V_iconst (v := 0) dX7_ifPlayed_156 (by decide) ?_
    refine V_callSu dX7_ifPlayed_157 kX7_45 ykX7_copyState (tX7_copyState (p := 107) (q := 106) (u := 0) (v := 0) (np := 441) (nq := 441) (by decide) (by decide) (fun _ => rfl) (fun _ => rfl) (by decide) (by omega) (by omega) (by decide) (by decide)) rfl (Nat.le_of_ble_eq_true rfl) ⟨by decide, by decide, by decide, by decide⟩ ?_
    rw [mReh_z]
    refine V_iload dX7_ifPlayed_160 rfl ?_
    refine V_iret dX7_ifPlayed_162 rfl rfl rfl ?_
    refine Rs_i hw (SC_mReh (fun j hj => ?_))
    show va_cpy sp _ 0 0 441 j = _
    unfold va_cpy
    rw [if_pos (by omega), show 0 + (j - 0) = j by omega]
    exact sp_at j hj
  rw [← hP, d2] at fin
  refine V_iload_n dX7_ifPlayed_92 rfl ?_
  by_cases x0 : x3 = 0
  · refine V_if_ne dX7_ifPlayed_93 (fun z => absurd z (fun z => z x0)) (fun _ => ?_)
    refine V_iload dX7_ifPlayed_96 rfl ?_
    refine V_goto dX7_ifPlayed_98 ?_
    exact fin _ (by rw [if_pos x0])
  refine V_if_ne dX7_ifPlayed_93 (fun _ => ?_) (fun z => absurd z x0)
  refine V_iload_n dX7_ifPlayed_101 rfl ?_
  refine V_iconst (v := 1) dX7_ifPlayed_102 (by decide) ?_
  by_cases x1 : x3 = 1
  · refine V_icmp_ne dX7_ifPlayed_103 (fun z => absurd z (fun z => z x1)) (fun _ => ?_)
    refine V_aload_n dX7_ifPlayed_106 rfl ?_
    refine V_bget dX7_ifPlayed_107 fX7_7 (by decide) rfl (by (try simp only [mset_s, mset_n, pk_us, pk_un, ne_eq, Nat.reduceEqDiff, Nat.reduceAdd, not_false_eq_true, not_true_eq_false]) <;> rfl) ?_
    refine V_bipush (v := 37) dX7_ifPlayed_110 (by decide) ?_
    refine V_biald dX7_ifPlayed_112 (by decide) rfl (by repeat (first | with_reducible rfl | with_reducible exact nlit | with_reducible apply nadd | with_reducible apply nmul | with_reducible apply nsub | with_reducible assumption | omega)) (by omega) (by first | decide | omega) (by (try simp only [mset_s, mset_n, pk_us, pk_un, ne_eq, Nat.reduceEqDiff, Nat.reduceAdd, not_false_eq_true, not_true_eq_false]) <;> rfl) ?_
    rw [z37]
    refine V_goto dX7_ifPlayed_113 ?_
    exact fin _ (by rw [if_neg x0, if_pos x1])
  refine V_icmp_ne dX7_ifPlayed_103 (fun _ => ?_) (fun z => absurd z x1)
  refine V_iload_n dX7_ifPlayed_116 rfl ?_
  refine V_iconst (v := 2) dX7_ifPlayed_117 (by decide) ?_
  by_cases x2 : x3 = 2
  · refine V_icmp_ne dX7_ifPlayed_118 (fun z => absurd z (fun z => z x2)) (fun _ => ?_)
    refine V_aload_n dX7_ifPlayed_121 rfl ?_
    refine V_callVw dX7_ifPlayed_122 kX7_141 ykX7_sum (by decide) rfl rfl tX7_sum rfl (Nat.le_of_ble_eq_true rfl) ⟨by decide, by decide, by decide, by decide⟩ ?_
    rw [zc 30 (by decide)]
    refine V_goto dX7_ifPlayed_125 ?_
    exact fin _ (by rw [if_neg x0, if_neg x1, if_pos x2])
  refine V_icmp_ne dX7_ifPlayed_118 (fun _ => ?_) (fun z => absurd z x2)
  refine V_iload_n dX7_ifPlayed_128 rfl ?_
  refine V_iconst (v := 3) dX7_ifPlayed_129 (by decide) ?_
  by_cases x3' : x3 = 3
  · refine V_icmp_ne dX7_ifPlayed_130 (fun z => absurd z (fun z => z x3')) (fun _ => ?_)
    refine V_aload_n dX7_ifPlayed_133 rfl ?_
    refine V_bget dX7_ifPlayed_134 fX7_7 (by decide) rfl (by (try simp only [mset_s, mset_n, pk_us, pk_un, ne_eq, Nat.reduceEqDiff, Nat.reduceAdd, not_false_eq_true, not_true_eq_false]) <;> rfl) ?_
    refine V_bipush (v := 30) dX7_ifPlayed_137 (by decide) ?_
    refine V_biald dX7_ifPlayed_139 (by decide) rfl (by repeat (first | with_reducible rfl | with_reducible exact nlit | with_reducible apply nadd | with_reducible apply nmul | with_reducible apply nsub | with_reducible assumption | omega)) (by omega) (by first | decide | omega) (by (try simp only [mset_s, mset_n, pk_us, pk_un, ne_eq, Nat.reduceEqDiff, Nat.reduceAdd, not_false_eq_true, not_true_eq_false]) <;> rfl) ?_
    rw [z30]
    refine V_goto dX7_ifPlayed_140 ?_
    exact fin _ (by rw [if_neg x0, if_neg x1, if_neg x2, if_pos x3'])
  refine V_icmp_ne dX7_ifPlayed_130 (fun _ => ?_) (fun z => absurd z (x3'))
  refine V_iload dX7_ifPlayed_143 rfl ?_
  exact fin _ (by rw [if_neg x0, if_neg x1, if_neg x2, if_neg x3'])
set_option maxHeartbeats 4000000 in
theorem tX7_fewestTurns_o {lc : Nat} (x1 x2 x3 : Int32) (h33 : C 106 33 = nI lc) (hlc : lc ≤ 6) (hx : ¬ (isIx x1 lc ∧ (0 ≤ x2 ∧ x2 ≤ 29))) : Ct G l yX7_fewestTurns cX7_fewestTurns 7 (some .int) 2 0 0 sz [.ref (a + 105), .int x1, .int x2, .int x3] (B G a C) (Rw G a (.int (-1)) C) := by
  refine Ct.of (own := RX7) (mn := "fewestTurns") (L0 := [some (.ref (a + 105)), some (.int x1), some (.int x2), some (.int x3), none, none, none]) (by decide +kernel) rfl rfl rfl (Nat.le_of_ble_eq_true rfl) rfl ?_
  refine V_aload_n dX7_fewestTurns_0 rfl ?_
  refine V_iload_n dX7_fewestTurns_1 rfl ?_
  refine V_callVw dX7_fewestTurns_2 kX7_92 ykX7_isLoop (by decide) rfl rfl (tX7_isLoop _ h33 (by omega)) rfl (Nat.le_of_ble_eq_true rfl) ⟨by decide, by decide, by decide, by decide⟩ ?_
  by_cases h1 : isIx x1 lc
  · refine V_if_eq dX7_fewestTurns_5 (fun z => absurd z (bI_ne0.mpr h1)) (fun _ => ?_)
    refine V_iload_n dX7_fewestTurns_8 rfl ?_
    refine V_iconst (v := 0) dX7_fewestTurns_9 (by decide) ?_
    refine V_bipush (v := 29) dX7_fewestTurns_10 (by decide) ?_
    refine V_callSw dX7_fewestTurns_12 kX7_37 ykX7_in (tX7_in _ _ _) rfl (Nat.le_of_ble_eq_true rfl) ⟨by decide, by decide, by decide, by decide⟩ ?_
    refine V_if_ne dX7_fewestTurns_15 (fun z => absurd z (fun z => z (bI_f (fun q => hx ⟨h1, q⟩)))) (fun _ => ?_)
    refine V_iconst (v := (-1)) dX7_fewestTurns_18 (by decide) ?_
    refine V_iret dX7_fewestTurns_19 rfl rfl rfl ?_
    exact Rw_i rfl rfl
  · refine V_if_eq dX7_fewestTurns_5 (fun _ => ?_) (fun z => absurd (bI_f h1) z)
    refine V_iconst (v := (-1)) dX7_fewestTurns_18 (by decide) ?_
    refine V_iret dX7_fewestTurns_19 rfl rfl rfl ?_
    exact Rw_i rfl rfl
set_option maxHeartbeats 4000000 in
theorem tX7_fewestTurns_r {lc n cl : Nat} (x3 : Int32) (h33 : C 106 33 = nI lc) (hlc : lc ≤ 6) (hn : n < lc) (hcl : cl < 30) (hx : ¬ (0 ≤ x3 ∧ x3 ≤ 99)) : Ct G l yX7_fewestTurns cX7_fewestTurns 7 (some .int) 2 0 0 sz [.ref (a + 105), .int (nI n), .int (nI cl), .int x3] (B G a C) (Rw G a (.int (-2)) C) := by
  refine Ct.of (own := RX7) (mn := "fewestTurns") (L0 := [some (.ref (a + 105)), some (.int (nI n)), some (.int (nI cl)), some (.int x3), none, none, none]) (by decide +kernel) rfl rfl rfl (Nat.le_of_ble_eq_true rfl) rfl ?_
  refine V_aload_n dX7_fewestTurns_0 rfl ?_
  refine V_iload_n dX7_fewestTurns_1 rfl ?_
  refine V_callVw dX7_fewestTurns_2 kX7_92 ykX7_isLoop (by decide) rfl rfl (tX7_isLoop _ h33 (by omega)) rfl (Nat.le_of_ble_eq_true rfl) ⟨by decide, by decide, by decide, by decide⟩ ?_
  refine V_if_eq dX7_fewestTurns_5 (fun z => absurd z (bI_ne0.mpr (isIx_nI hn (by omega)))) (fun _ => ?_)
  refine V_iload_n dX7_fewestTurns_8 rfl ?_
  refine V_iconst (v := 0) dX7_fewestTurns_9 (by decide) ?_
  refine V_bipush (v := 29) dX7_fewestTurns_10 (by decide) ?_
  refine V_callSw dX7_fewestTurns_12 kX7_37 ykX7_in (tX7_in _ _ _) rfl (Nat.le_of_ble_eq_true rfl) ⟨by decide, by decide, by decide, by decide⟩ ?_
  refine V_if_ne dX7_fewestTurns_15 (fun _ => ?_) (fun z => absurd z ((bI_ne0.mpr ⟨(cle nlit rfl (by omega) (by omega)).mpr (by omega), (cle rfl nlit (by omega) (by omega)).mpr (by omega)⟩)))
  refine V_iload_n dX7_fewestTurns_20 rfl ?_
  refine V_iconst (v := 0) dX7_fewestTurns_21 (by decide) ?_
  refine V_bipush (v := 99) dX7_fewestTurns_22 (by decide) ?_
  refine V_callSw dX7_fewestTurns_24 kX7_37 ykX7_in (tX7_in _ _ _) rfl (Nat.le_of_ble_eq_true rfl) ⟨by decide, by decide, by decide, by decide⟩ ?_
  refine V_if_ne dX7_fewestTurns_27 (fun z => absurd z (fun z => z (bI_f hx))) (fun _ => ?_)
  refine V_bipush (v := (-2)) dX7_fewestTurns_30 (by decide) ?_
  refine V_iret dX7_fewestTurns_32 rfl rfl rfl ?_
  exact Rw_i rfl rfl
set_option maxHeartbeats 4000000 in
theorem tX7_fewestTurns {lc n len cl hd : Nat} {c : Nat → Int32} (x3 : Int32) (h33 : C 106 33 = nI lc) (hlc : lc ≤ 6) (hn : n < lc) (hl : C 106 (213 + 38 * n) = nI len) (hlen : len ≤ 12) (hcl : cl < 30) (hx : 0 ≤ x3 ∧ x3 ≤ 99) (hc : ∀ j, j < 30 → C 106 j = c j) (h30 : C 106 30 = nI hd) (hhd : hd < 30) : Ct G l yX7_fewestTurns cX7_fewestTurns 7 (some .int) 2 0 0 sz [.ref (a + 105), .int (nI n), .int (nI cl), .int x3] (B G a C) (Rs G a (.int (fewF (lvM (C 106) n) (lnM (C 106) n) (lsM (C 106) n) len cl x3 99 0 (c, hd, 0, 0))) C) := by
  refine Ct.of (own := RX7) (mn := "fewestTurns") (L0 := [some (.ref (a + 105)), some (.int (nI n)), some (.int (nI cl)), some (.int x3), none, none, none]) (by decide +kernel) rfl rfl rfl (Nat.le_of_ble_eq_true rfl) rfl ?_
  refine V_aload_n dX7_fewestTurns_0 rfl ?_
  refine V_iload_n dX7_fewestTurns_1 rfl ?_
  refine V_callVw dX7_fewestTurns_2 kX7_92 ykX7_isLoop (by decide) rfl rfl (tX7_isLoop _ h33 (by omega)) rfl (Nat.le_of_ble_eq_true rfl) ⟨by decide, by decide, by decide, by decide⟩ ?_
  refine V_if_eq dX7_fewestTurns_5 (fun z => absurd z (bI_ne0.mpr (isIx_nI hn (by omega)))) (fun _ => ?_)
  refine V_iload_n dX7_fewestTurns_8 rfl ?_
  refine V_iconst (v := 0) dX7_fewestTurns_9 (by decide) ?_
  refine V_bipush (v := 29) dX7_fewestTurns_10 (by decide) ?_
  refine V_callSw dX7_fewestTurns_12 kX7_37 ykX7_in (tX7_in _ _ _) rfl (Nat.le_of_ble_eq_true rfl) ⟨by decide, by decide, by decide, by decide⟩ ?_
  refine V_if_ne dX7_fewestTurns_15 (fun _ => ?_) (fun z => absurd z ((bI_ne0.mpr ⟨(cle nlit rfl (by omega) (by omega)).mpr (by omega), (cle rfl nlit (by omega) (by omega)).mpr (by omega)⟩)))
  refine V_iload_n dX7_fewestTurns_20 rfl ?_
  refine V_iconst (v := 0) dX7_fewestTurns_21 (by decide) ?_
  refine V_bipush (v := 99) dX7_fewestTurns_22 (by decide) ?_
  refine V_callSw dX7_fewestTurns_24 kX7_37 ykX7_in (tX7_in _ _ _) rfl (Nat.le_of_ble_eq_true rfl) ⟨by decide, by decide, by decide, by decide⟩ ?_
  refine V_if_ne dX7_fewestTurns_27 (fun _ => ?_) (fun z => absurd z ((bI_ne0.mpr hx)))
  refine V_aload_n dX7_fewestTurns_33 rfl ?_
  refine V_bget dX7_fewestTurns_34 fX7_7 (by decide) rfl (by (try simp only [mset_s, mset_n, pk_us, pk_un, ne_eq, Nat.reduceEqDiff, Nat.reduceAdd, not_false_eq_true, not_true_eq_false]) <;> rfl) ?_
  refine V_iconst (v := 0) dX7_fewestTurns_37 (by decide) ?_
  refine V_aload_n dX7_fewestTurns_38 rfl ?_
  refine V_bget dX7_fewestTurns_39 fX7_13 (by decide) rfl (by (try simp only [mset_s, mset_n, pk_us, pk_un, ne_eq, Nat.reduceEqDiff, Nat.reduceAdd, not_false_eq_true, not_true_eq_false]) <;> rfl) ?_
  refine V_iconst (v := 0) dX7_fewestTurns_42 (by decide) ?_
  refine V_callSu dX7_fewestTurns_43 kX7_45 ykX7_copyState (tX7_copyState (p := 106) (q := 107) (u := 0) (v := 0) (np := 441) (nq := 441) (by decide) (by decide) (fun _ => rfl) (fun _ => rfl) (by decide) (by omega) (by omega) (by decide) (by decide)) rfl (Nat.le_of_ble_eq_true rfl) ⟨by decide, by decide, by decide, by decide⟩ ?_
  refine V_aload_n dX7_fewestTurns_46 rfl ?_
  refine V_iload_n dX7_fewestTurns_47 rfl ?_
  generalize hsp : va_cpy (C 106) (C 107) 0 0 441 = sp
  have sp_at : ∀ j, j < 441 → sp j = C 106 j := fun j hj => by
    rw [← hsp]
    unfold va_cpy
    rw [if_pos (by omega)]
    congr 1
    omega
  refine V_callVu dX7_fewestTurns_48 kX7_101 ykX7_takeBody (by decide) rfl rfl (tX7_takeBody (C := mset C 107 sp) (by omega) hl hlen) rfl (Nat.le_of_ble_eq_true rfl) ⟨by decide, by decide, by decide, by decide⟩ ?_
  have hb : ∀ j, j < len → mReh C n len sp (C 106) 111 j = lvM (C 106) n j ∧ mReh C n len sp (C 106) 112 j = lnM (C 106) n j ∧ mReh C n len sp (C 106) 113 j = lsM (C 106) n j := fun j hj => ⟨tbF_at hj, tbF_at hj, tbF_at hj⟩
  obtain ⟨Wr, hWr⟩ : ∃ W, W = fewF (lvM (C 106) n) (lnM (C 106) n) (lsM (C 106) n) len cl x3 99 0 (c, hd, 0, 0) := ⟨_, rfl⟩
  have fin : ∀ (w : Int32) (z1 : Nat → Int32) (L5 L6 : Option Value), w = Wr → V G l RX7 "fewestTurns" cX7_fewestTurns 7 (some .int) (rmd 2 0 0) E0 (Qm G (Rs G a (.int (fewF (lvM (C 106) n) (lnM (C 106) n) (lsM (C 106) n) len cl x3 99 0 (c, hd, 0, 0))) C) sz 0 0) sz 0 0 115 [some (.ref (a + 105)), some (.int (nI n)), some (.int (nI cl)), some (.int x3), some (.int w), L5, L6] [] (B G a (mReh C n len sp z1)) := by
    intro w z1 L5 L6 hw
    refine V_aload_n dX7_fewestTurns_115 rfl ?_
    refine V_bget dX7_fewestTurns_116 fX7_13 (by decide) rfl (by (try simp only [mset_s, mset_n, pk_us, pk_un, ne_eq, Nat.reduceEqDiff, Nat.reduceAdd, not_false_eq_true, not_true_eq_false]) <;> rfl) ?_
    refine V_iconst (v := 0) dX7_fewestTurns_119 (by decide) ?_
    refine V_aload_n dX7_fewestTurns_120 rfl ?_
    refine V_bget dX7_fewestTurns_121 fX7_7 (by decide) rfl (by (try simp only [mset_s, mset_n, pk_us, pk_un, ne_eq, Nat.reduceEqDiff, Nat.reduceAdd, not_false_eq_true, not_true_eq_false]) <;> rfl) ?_
    refine V_iconst (v := 0) dX7_fewestTurns_124 (by decide) ?_
    refine V_callSu dX7_fewestTurns_125 kX7_45 ykX7_copyState (tX7_copyState (p := 107) (q := 106) (u := 0) (v := 0) (np := 441) (nq := 441) (by decide) (by decide) (fun _ => rfl) (fun _ => rfl) (by decide) (by omega) (by omega) (by decide) (by decide)) rfl (Nat.le_of_ble_eq_true rfl) ⟨by decide, by decide, by decide, by decide⟩ ?_
    rw [mReh_z]
    refine V_iload dX7_fewestTurns_128 rfl ?_
    refine V_iret dX7_fewestTurns_130 rfl rfl rfl ?_
    refine Rs_i (hw.trans hWr) (SC_mReh (fun j hj => ?_))
    show va_cpy sp _ 0 0 441 j = _
    unfold va_cpy
    rw [if_pos (by omega), show 0 + (j - 0) = j by omega]
    exact sp_at j hj
  have key : ∀ (m t : Nat) (s : PS), t + m = 99 → s.2.1 < 30 → fewF (lvM (C 106) n) (lnM (C 106) n) (lsM (C 106) n) len cl x3 m t s = Wr → V G l RX7 "fewestTurns" cX7_fewestTurns 7 (some .int) (rmd 2 0 0) E0 (Qm G (Rs G a (.int (fewF (lvM (C 106) n) (lnM (C 106) n) (lsM (C 106) n) len cl x3 99 0 (c, hd, 0, 0))) C) sz 0 0) sz 0 0 61 [some (.ref (a + 105)), some (.int (nI n)), some (.int (nI cl)), some (.int x3), some (.int (-5)), some (.int 0), some (.int (nI t))] [] (B G a (mReh C n len sp (zPS (C 106) s 0))) := by
    intro m
    induction m with
    | zero =>
      intro t s ht h3 hs
      obtain rfl : t = 99 := by omega
      refine V_iload dX7_fewestTurns_61 rfl ?_
      refine V_bipush (v := 99) dX7_fewestTurns_63 (by decide) ?_
      refine V_icmp_ge dX7_fewestTurns_65 (fun _ => ?_) (fun z => absurd ((cle (by repeat (first | with_reducible rfl | with_reducible exact nlit | with_reducible apply nadd | with_reducible apply nmul | with_reducible apply nsub | with_reducible assumption | omega)) (by repeat (first | with_reducible rfl | with_reducible exact nlit | with_reducible apply nadd | with_reducible apply nmul | with_reducible apply nsub | with_reducible assumption | omega)) (by omega) (by omega)).mpr (by omega)) z)
      exact fin _ _ _ _ (by rw [← hs]; rfl)
    | succ m ih =>
      intro t s ht h3 hs
      refine V_iload dX7_fewestTurns_61 rfl ?_
      refine V_bipush (v := 99) dX7_fewestTurns_63 (by decide) ?_
      refine V_icmp_ge dX7_fewestTurns_65 (fun z => absurd z (fun z => absurd ((cle (by repeat (first | with_reducible rfl | with_reducible exact nlit | with_reducible apply nadd | with_reducible apply nmul | with_reducible apply nsub | with_reducible assumption | omega)) (by repeat (first | with_reducible rfl | with_reducible exact nlit | with_reducible apply nadd | with_reducible apply nmul | with_reducible apply nsub | with_reducible assumption | omega)) (by omega) (by omega)).mp z) (by omega))) (fun _ => ?_)
      refine V_iload dX7_fewestTurns_68 rfl ?_
      refine V_if_ne dX7_fewestTurns_70 (fun z => absurd z (fun z => z rfl)) (fun _ => ?_)
      refine V_iload dX7_fewestTurns_73 rfl ?_
      refine V_bipush (v := (-5)) dX7_fewestTurns_75 (by decide) ?_
      refine V_icmp_ne dX7_fewestTurns_77 (fun z => absurd z (fun z => z rfl)) (fun _ => ?_)
      refine V_aload_n dX7_fewestTurns_80 rfl ?_
      refine V_iload dX7_fewestTurns_81 rfl ?_
      refine V_callVw dX7_fewestTurns_83 kX7_98 ykX7_turn (by decide) rfl rfl (tX7_turn (C := mReh C n len sp (zPS (C 106) s 0)) (z0 := C 106) (s := s) (fl := 0) (size := len) _ rfl h3 rfl (by omega)) rfl (Nat.le_of_ble_eq_true rfl) ⟨by decide, by decide, by decide, by decide⟩ ?_
      rw [mReh_z, plTurn_congr (bv := mReh C n len sp (zPS (C 106) s 0) 111) (bn := mReh C n len sp (zPS (C 106) s 0) 112) (bs := mReh C n len sp (zPS (C 106) s 0) 113) len 0 s (fun j hj => hb j (by omega))]
      simp only [fewF] at hs
      have h3' := plTurn_hd (bv := lvM (C 106) n) (bn := lnM (C 106) n) (bs := lsM (C 106) n) (r := nI t) len 0 s h3
      generalize hP : plTurn (lvM (C 106) n) (lnM (C 106) n) (lsM (C 106) n) (nI t) len 0 s = P at hs h3'
      refine V_istore dX7_fewestTurns_86 (by decide) (by dsimp only [List.set] <;> rfl) ?_
      refine V_aload_n dX7_fewestTurns_88 rfl ?_
      refine V_bget dX7_fewestTurns_89 fX7_7 (by decide) rfl (by (try simp only [mset_s, mset_n, pk_us, pk_un, ne_eq, Nat.reduceEqDiff, Nat.reduceAdd, not_false_eq_true, not_true_eq_false]) <;> rfl) ?_
      refine V_iload_n dX7_fewestTurns_92 rfl ?_
      refine V_biald dX7_fewestTurns_93 (by decide) rfl (by repeat (first | with_reducible rfl | with_reducible exact nlit | with_reducible apply nadd | with_reducible apply nmul | with_reducible apply nsub | with_reducible assumption | omega)) (by omega) (by first | decide | omega) (by (try simp only [mset_s, mset_n, pk_us, pk_un, ne_eq, Nat.reduceEqDiff, Nat.reduceAdd, not_false_eq_true, not_true_eq_false]) <;> rfl) ?_
      rw [show mReh C n len sp (zPS (C 106) P.1 (0 + f2 P.2)) 106 cl = P.1.1 cl from zPS_c hcl]
      refine V_iload_n dX7_fewestTurns_94 rfl ?_
      by_cases hv : P.1.1 cl = x3
      · rw [if_pos hv] at hs
        refine V_icmp_ne dX7_fewestTurns_95 (fun z => absurd z (fun z => z hv)) (fun _ => ?_)
        refine V_iload dX7_fewestTurns_98 rfl ?_
        refine V_iconst (v := 1) dX7_fewestTurns_100 (by decide) ?_
        refine V_iadd dX7_fewestTurns_101 ?_
        rw [show nI t + 1 = nI (t + 1) from nI_1 t]
        refine V_goto dX7_fewestTurns_102 ?_
        refine V_istore dX7_fewestTurns_107 (by decide) (by dsimp only [List.set] <;> rfl) ?_
        refine V_iinc dX7_fewestTurns_109 rfl (ninc _) (by decide) (by dsimp only [List.set] <;> rfl) ?_
        refine V_goto dX7_fewestTurns_112 ?_
        refine V_iload dX7_fewestTurns_61 rfl ?_
        refine V_bipush (v := 99) dX7_fewestTurns_63 (by decide) ?_
        by_cases h99 : t + 1 = 99
        · refine V_icmp_ge dX7_fewestTurns_65 (fun _ => ?_) (fun z => absurd ((cle (by repeat (first | with_reducible rfl | with_reducible exact nlit | with_reducible apply nadd | with_reducible apply nmul | with_reducible apply nsub | with_reducible assumption | omega)) (by repeat (first | with_reducible rfl | with_reducible exact nlit | with_reducible apply nadd | with_reducible apply nmul | with_reducible apply nsub | with_reducible assumption | omega)) (by omega) (by omega)).mpr (by omega)) z)
          exact fin _ _ _ _ hs
        refine V_icmp_ge dX7_fewestTurns_65 (fun z => absurd z (fun z => absurd ((cle (by repeat (first | with_reducible rfl | with_reducible exact nlit | with_reducible apply nadd | with_reducible apply nmul | with_reducible apply nsub | with_reducible assumption | omega)) (by repeat (first | with_reducible rfl | with_reducible exact nlit | with_reducible apply nadd | with_reducible apply nmul | with_reducible apply nsub | with_reducible assumption | omega)) (by omega) (by omega)).mp z) (by omega))) (fun _ => ?_)
        refine V_iload dX7_fewestTurns_68 rfl ?_
        by_cases h0 : P.2 = 0
        · refine V_if_ne dX7_fewestTurns_70 (fun z => absurd z (fun z => z h0)) (fun _ => ?_)
          refine V_iload dX7_fewestTurns_73 rfl ?_
          refine V_bipush (v := (-5)) dX7_fewestTurns_75 (by decide) ?_
          refine V_icmp_ne dX7_fewestTurns_77 (fun _ => ?_) (fun z => absurd z ((by intro z; have := congrArg Int32.toInt z; rw [nI_toInt (by omega)] at this; have e : (-5 : Int32).toInt = -5 := rfl; omega)))
          exact fin _ _ _ _ hs
        · refine V_if_ne dX7_fewestTurns_70 (fun _ => ?_) (fun z => absurd z h0)
          exact fin _ _ _ _ hs
      · rw [if_neg hv] at hs
        refine V_icmp_ne dX7_fewestTurns_95 (fun _ => ?_) (fun z => absurd z hv)
        refine V_bipush (v := (-5)) dX7_fewestTurns_105 (by decide) ?_
        refine V_istore dX7_fewestTurns_107 (by decide) (by dsimp only [List.set] <;> rfl) ?_
        refine V_iinc dX7_fewestTurns_109 rfl (ninc _) (by decide) (by dsimp only [List.set] <;> rfl) ?_
        refine V_goto dX7_fewestTurns_112 ?_
        by_cases h99 : t + 1 = 99
        · obtain rfl : m = 0 := by omega
          have hs2 : (-5 : Int32) = Wr := by
            by_cases h0 : P.2 = 0
            · rw [if_pos h0] at hs; exact hs
            · rw [if_neg h0] at hs; exact hs
          refine V_iload dX7_fewestTurns_61 rfl ?_
          refine V_bipush (v := 99) dX7_fewestTurns_63 (by decide) ?_
          refine V_icmp_ge dX7_fewestTurns_65 (fun _ => ?_) (fun z => absurd ((cle (by repeat (first | with_reducible rfl | with_reducible exact nlit | with_reducible apply nadd | with_reducible apply nmul | with_reducible apply nsub | with_reducible assumption | omega)) (by repeat (first | with_reducible rfl | with_reducible exact nlit | with_reducible apply nadd | with_reducible apply nmul | with_reducible apply nsub | with_reducible assumption | omega)) (by omega) (by omega)).mpr (by omega)) z)
          exact fin _ _ _ _ hs2
        by_cases h0 : P.2 = 0
        · rw [if_pos h0] at hs
          have := ih (t + 1) P.1 (by omega) h3' hs
          rw [h0, f2_0, i_add0]
          exact this
        · rw [if_neg h0] at hs
          refine V_iload dX7_fewestTurns_61 rfl ?_
          refine V_bipush (v := 99) dX7_fewestTurns_63 (by decide) ?_
          refine V_icmp_ge dX7_fewestTurns_65 (fun z => absurd z (fun z => absurd ((cle (by repeat (first | with_reducible rfl | with_reducible exact nlit | with_reducible apply nadd | with_reducible apply nmul | with_reducible apply nsub | with_reducible assumption | omega)) (by repeat (first | with_reducible rfl | with_reducible exact nlit | with_reducible apply nadd | with_reducible apply nmul | with_reducible apply nsub | with_reducible assumption | omega)) (by omega) (by omega)).mp z) (by omega))) (fun _ => ?_)
          refine V_iload dX7_fewestTurns_68 rfl ?_
          refine V_if_ne dX7_fewestTurns_70 (fun _ => ?_) (fun z => absurd z h0)
          exact fin _ _ _ _ hs
  refine V_bipush (v := (-5)) dX7_fewestTurns_51 (by decide) ?_
  refine V_istore dX7_fewestTurns_53 (by decide) (by dsimp only [List.set] <;> rfl) ?_
  refine V_iconst (v := 0) dX7_fewestTurns_55 (by decide) ?_
  refine V_istore dX7_fewestTurns_56 (by decide) (by dsimp only [List.set] <;> rfl) ?_
  refine V_iconst (v := 0) dX7_fewestTurns_58 (by decide) ?_
  refine V_istore dX7_fewestTurns_59 (by decide) (by dsimp only [List.set] <;> rfl) ?_
  have k0 := key 99 0 (c, hd, 0, 0) rfl hhd hWr.symm
  rw [show zPS (C 106) (c, hd, 0, 0) 0 = C 106 from zOf_0 hc h30] at k0
  have e : mReh C n len sp (C 106) = mBody (mset C 107 sp) n len := by
    unfold mReh
    have e1 : mBody (mset C 107 sp) n len 106 = C 106 := rfl
    rw [← e1, mset_eta]
  rw [e] at k0
  exact k0
end MODEL
