/-! TryLoopsModel: sees, takes, number, verbBy, readStep. -/
/-- the sign at a place of the model's text -/
abbrev chM (C : CT) (n : Nat) : Nat → Int32 := chF (C 110) n
/-- the model's world with the spot at p -/
abbrev mSp (C : CT) (p : Nat) : CT := mset C 105 (upd (C 105) 4 (nI p))
/-- with the spot at p, s steps in the body, and these arrays -/
def mTX (C : CT) (s p : Nat) (v n t : Nat → Int32) : CT := fun i => if i = 105 then upd (upd (C 105) 3 (nI s)) 4 (nI p) else if i = 111 then v else if i = 112 then n else if i = 113 then t else C i
theorem upd_comm {f : Nat → Int32} {i j : Nat} {x y : Int32} (h : i ≠ j) : upd (upd f i x) j y = upd (upd f j y) i x := by
  funext k; unfold upd
  by_cases h1 : k = j
  · rw [if_pos h1, if_neg (by omega), if_pos h1]
  · rw [if_neg h1]
    by_cases h2 : k = i
    · rw [if_pos h2, if_pos h2]
    · rw [if_neg h2, if_neg h2, if_neg h1]
theorem mTX_p {C : CT} {s p q : Nat} {v n t : Nat → Int32} : mset (mTX C s p v n t) 105 (upd (mTX C s p v n t 105) 4 (nI q)) = mTX C s q v n t := by
  funext i; unfold mset
  split
  · subst_vars
    show upd (upd (upd (C 105) 3 (nI s)) 4 (nI p)) 4 (nI q) = upd (upd (C 105) 3 (nI s)) 4 (nI q)
    rw [uus]
  · unfold mTX; simp [*]
theorem mTX_s {C : CT} {s p q : Nat} {v n t : Nat → Int32} : mset (mTX C s p v n t) 105 (upd (mTX C s p v n t 105) 3 (nI q)) = mTX C q p v n t := by
  funext i; unfold mset
  split
  · subst_vars
    show upd (upd (upd (C 105) 3 (nI s)) 4 (nI p)) 3 (nI q) = upd (upd (C 105) 3 (nI q)) 4 (nI p)
    rw [upd_comm (f := upd (C 105) 3 (nI s)) (i := 4) (j := 3) (by decide), uus]
  · unfold mTX; simp [*]
theorem mTX_v {C : CT} {s p : Nat} {v n t f : Nat → Int32} : mset (mTX C s p v n t) 111 f = mTX C s p f n t := by
  funext i; unfold mset mTX; split
  · subst_vars; simp
  · simp [*]
theorem mTX_n {C : CT} {s p : Nat} {v n t f : Nat → Int32} : mset (mTX C s p v n t) 112 f = mTX C s p v f t := by
  funext i; unfold mset mTX; split
  · subst_vars; simp
  · simp [*]
theorem mTX_t {C : CT} {s p : Nat} {v n t f : Nat → Int32} : mset (mTX C s p v n t) 113 f = mTX C s p v n f := by
  funext i; unfold mset mTX; split
  · subst_vars; simp
  · simp [*]
section MODEL
variable {G : GT} {l : Launch} {sz a : Nat} {C : CT}
set_option maxHeartbeats 4000000 in
theorem tX7_sees {n p : Nat} (lo hi : Int32) (hlo : 0 < lo) (hn : C 105 2 = nI n) (hn60 : n ≤ 60) (hp : C 105 4 = nI p) (hp60 : p ≤ 100) : Ct G l yX7_sees cX7_sees 3 (some .boolean) 1 0 0 sz [.ref (a + 105), .int lo, .int hi] (B G a C) (Rw G a (.int (bI (lo ≤ chM C n p ∧ chM C n p ≤ hi))) C) := by
  refine Ct.of (own := RX7) (mn := "sees") (L0 := [some (.ref (a + 105)), some (.int lo), some (.int hi)]) (by decide +kernel) rfl rfl rfl (Nat.le_of_ble_eq_true rfl) rfl ?_
  refine V_aload_n dX7_sees_0 rfl ?_
  refine V_bget dX7_sees_1 fX7_115 (by decide) rfl (by (try simp only [mset_s, mset_n, pk_us, pk_un, ne_eq, Nat.reduceEqDiff, Nat.reduceAdd, not_false_eq_true, not_true_eq_false]) <;> rfl) ?_
  rw [hp]
  refine V_aload_n dX7_sees_4 rfl ?_
  refine V_bget dX7_sees_5 fX7_112 (by decide) rfl (by (try simp only [mset_s, mset_n, pk_us, pk_un, ne_eq, Nat.reduceEqDiff, Nat.reduceAdd, not_false_eq_true, not_true_eq_false]) <;> rfl) ?_
  rw [hn]
  rcases Nat.lt_or_ge p n with q | q
  · have e : chM C n p = C 110 p := by unfold chM chF; rw [if_pos q]
    rw [e]
    refine V_icmp_ge dX7_sees_8 (fun z => absurd z (fun z => absurd ((cle (by repeat (first | with_reducible rfl | with_reducible exact nlit | with_reducible apply nadd | with_reducible apply nmul | with_reducible apply nsub | with_reducible assumption | omega)) (by repeat (first | with_reducible rfl | with_reducible exact nlit | with_reducible apply nadd | with_reducible apply nmul | with_reducible apply nsub | with_reducible assumption | omega)) (by omega) (by omega)).mp z) (by omega))) (fun _ => ?_)
    refine V_aload_n dX7_sees_11 rfl ?_
    refine V_bget dX7_sees_12 fX7_22 (by decide) rfl (by (try simp only [mset_s, mset_n, pk_us, pk_un, ne_eq, Nat.reduceEqDiff, Nat.reduceAdd, not_false_eq_true, not_true_eq_false]) <;> rfl) ?_
    refine V_aload_n dX7_sees_15 rfl ?_
    refine V_bget dX7_sees_16 fX7_115 (by decide) rfl (by (try simp only [mset_s, mset_n, pk_us, pk_un, ne_eq, Nat.reduceEqDiff, Nat.reduceAdd, not_false_eq_true, not_true_eq_false]) <;> rfl) ?_
    rw [hp]
    refine V_biald dX7_sees_19 (by decide) rfl (by repeat (first | with_reducible rfl | with_reducible exact nlit | with_reducible apply nadd | with_reducible apply nmul | with_reducible apply nsub | with_reducible assumption | omega)) (by omega) (by first | decide | omega) (by (try simp only [mset_s, mset_n, pk_us, pk_un, ne_eq, Nat.reduceEqDiff, Nat.reduceAdd, not_false_eq_true, not_true_eq_false]) <;> rfl) ?_
    refine V_iload_n dX7_sees_20 rfl ?_
    refine V_iload_n dX7_sees_21 rfl ?_
    refine V_callSw dX7_sees_22 kX7_37 ykX7_in (tX7_in _ _ _) rfl (Nat.le_of_ble_eq_true rfl) ⟨by decide, by decide, by decide, by decide⟩ ?_
    by_cases h : lo ≤ C 110 p ∧ C 110 p ≤ hi
    · refine V_if_eq dX7_sees_25 (fun z => absurd z (bI_ne0.mpr h)) (fun _ => ?_)
      refine V_iconst (v := 1) dX7_sees_28 (by decide) ?_
      refine V_goto dX7_sees_29 ?_
      refine V_zret dX7_sees_33 rfl (by first | rfl | exact bI_nar) rfl rfl ?_
      exact Rw_i (bI_t h).symm rfl
    · refine V_if_eq dX7_sees_25 (fun _ => ?_) (fun z => absurd (bI_f h) z)
      refine V_iconst (v := 0) dX7_sees_32 (by decide) ?_
      refine V_zret dX7_sees_33 rfl (by first | rfl | exact bI_nar) rfl rfl ?_
      exact Rw_i (bI_f h).symm rfl
  · have e : chM C n p = 0 := by unfold chM chF; rw [if_neg (by omega)]
    rw [e]
    refine V_icmp_ge dX7_sees_8 (fun _ => ?_) (fun z => absurd ((cle (by repeat (first | with_reducible rfl | with_reducible exact nlit | with_reducible apply nadd | with_reducible apply nmul | with_reducible apply nsub | with_reducible assumption | omega)) (by repeat (first | with_reducible rfl | with_reducible exact nlit | with_reducible apply nadd | with_reducible apply nmul | with_reducible apply nsub | with_reducible assumption | omega)) (by omega) (by omega)).mpr (by omega)) z)
    refine V_iconst (v := 0) dX7_sees_32 (by decide) ?_
    refine V_zret dX7_sees_33 rfl (by first | rfl | exact bI_nar) rfl rfl ?_
    exact Rw_i (bI_f (fun z => by have := z.1; rw [i_le] at this; rw [i_lt] at hlo; omega)).symm rfl
set_option maxHeartbeats 4000000 in
theorem tX7_takes {n p : Nat} (c : Int32) (hlo : 0 < c) (hn : C 105 2 = nI n) (hn60 : n ≤ 60) (hp : C 105 4 = nI p) (hp60 : p ≤ 100) : Ct G l yX7_takes cX7_takes 3 (some .boolean) 2 0 0 sz [.ref (a + 105), .int c] (B G a C) (Rw G a (.int (bI (chM C n p = c))) (mSp C (if chM C n p = c then p + 1 else p))) := by
  refine Ct.of (own := RX7) (mn := "takes") (L0 := [some (.ref (a + 105)), some (.int c), none]) (by decide +kernel) rfl rfl rfl (Nat.le_of_ble_eq_true rfl) rfl ?_
  refine V_aload_n dX7_takes_0 rfl ?_
  refine V_iload_n dX7_takes_1 rfl ?_
  refine V_iload_n dX7_takes_2 rfl ?_
  refine V_callVw dX7_takes_3 kX7_118 ykX7_sees (by decide) rfl rfl (tX7_sees _ _ hlo hn hn60 hp hp60) rfl (Nat.le_of_ble_eq_true rfl) ⟨by decide, by decide, by decide, by decide⟩ ?_
  rw [bI_cg (p := c ≤ chM C n p ∧ chM C n p ≤ c) (q := chM C n p = c) ⟨fun z => by rw [i_eq]; rw [i_le, i_le] at z; omega, fun z => by rw [z, i_le]; omega⟩]
  refine V_istore_n dX7_takes_6 (by decide) (by dsimp only [List.set] <;> rfl) ?_
  refine V_aload_n dX7_takes_7 rfl ?_
  refine V_dup dX7_takes_8 rfl ?_
  refine V_bget dX7_takes_9 fX7_115 (by decide) rfl (by (try simp only [mset_s, mset_n, pk_us, pk_un, ne_eq, Nat.reduceEqDiff, Nat.reduceAdd, not_false_eq_true, not_true_eq_false]) <;> rfl) ?_
  rw [hp]
  refine V_iload_n dX7_takes_12 rfl ?_
  by_cases h : chM C n p = c
  · rw [if_pos h]
    refine V_if_eq dX7_takes_13 (fun z => absurd z (bI_ne0.mpr h)) (fun _ => ?_)
    refine V_iconst (v := 1) dX7_takes_16 (by decide) ?_
    refine V_goto dX7_takes_17 ?_
    refine V_iadd dX7_takes_21 ?_
    rw [show nI p + 1 = nI (p + 1) from nI_1 p]
    refine V_bputi (i0 := 4) dX7_takes_22 fX7_115 (by decide) rfl rfl rfl (Nat.le_of_ble_eq_true rfl) rfl ?_
    refine V_iload_n dX7_takes_25 rfl ?_
    refine V_zret dX7_takes_26 rfl (by first | rfl | exact bI_nar) rfl rfl ?_
    exact Rw_i rfl rfl
  · rw [if_neg h]
    refine V_if_eq dX7_takes_13 (fun _ => ?_) (fun z => absurd (bI_f h) z)
    refine V_iconst (v := 0) dX7_takes_20 (by decide) ?_
    refine V_iadd dX7_takes_21 ?_
    rw [i_add0]
    refine V_bputi (i0 := 4) dX7_takes_22 fX7_115 (by decide) rfl rfl rfl (Nat.le_of_ble_eq_true rfl) rfl ?_
    refine V_iload_n dX7_takes_25 rfl ?_
    refine V_zret dX7_takes_26 rfl (by first | rfl | exact bI_nar) rfl rfl ?_
    exact Rw_i rfl rfl
set_option maxHeartbeats 4000000 in
abbrev oN (x : Option Nat) : Int32 := match x with
  | none => -5
  | some x => nI x
theorem tX7_number {n p lo hi : Nat} (hlo : lo ≤ 1) (hhi : hi = 29 ∨ hi = 99) (hn : C 105 2 = nI n) (hn60 : n ≤ 60) (hp : C 105 4 = nI p) (hp60 : p ≤ 70) : Ct G l yX7_number cX7_number 4 (some .int) 2 0 0 sz [.ref (a + 105), .int (nI lo), .int (nI hi)] (B G a C) (Rw G a (.int (oN (pNum (chM C n) lo hi p).1)) (mSp C (pNum (chM C n) lo hi p).2)) := by
  have c0 : ∀ j, n ≤ j → chM C n j = 0 := chF_0
  have inn : ∀ j, isD (chM C n j) → j < n ∧ C 110 j = chM C n j := fun j hj => by
    rcases Nat.lt_or_ge j n with q | q
    · exact ⟨q, by unfold chM chF; rw [if_pos q]⟩
    · rw [c0 j q] at hj
      exact absurd hj (by decide)
  have spn : ∀ q, mSp C q 105 2 = nI n := fun q => by show upd (C 105) 4 (nI q) 2 = nI n; rw [pk_un (by decide), hn]
  have spp : ∀ q, mSp C q 105 4 = nI q := fun q => by show upd (C 105) 4 (nI q) 4 = nI q; rw [pk_us]
  have sps : ∀ q r, mSp (mSp C q) r = mSp C r := fun q r => by unfold mSp; rw [mset_s, mset_ss, uus]
  have spm : mSp C p = C := by unfold mSp; rw [← hp, u_eta, mset_eta]
  refine Ct.of (own := RX7) (mn := "number") (L0 := [some (.ref (a + 105)), some (.int (nI lo)), some (.int (nI hi)), none]) (by decide +kernel) rfl rfl rfl (Nat.le_of_ble_eq_true rfl) rfl ?_
  refine V_aload_n dX7_number_0 rfl ?_
  refine V_bipush (v := 48) dX7_number_1 (by decide) ?_
  refine V_iload_n dX7_number_3 rfl ?_
  refine V_iadd dX7_number_4 ?_
  rw [show (48 : Int32) + nI lo = nI (48 + lo) from nadd nlit rfl]
  refine V_bipush (v := 57) dX7_number_5 (by decide) ?_
  refine V_callVw dX7_number_7 kX7_118 ykX7_sees (by decide) rfl rfl (tX7_sees (nI (48 + lo)) 57 ((clt nlit rfl (by omega) (by omega)).mpr (by omega)) hn hn60 hp (by omega)) rfl (Nat.le_of_ble_eq_true rfl) ⟨by decide, by decide, by decide, by decide⟩ ?_
  have e1 : (nI (48 + lo) ≤ chM C n p ∧ chM C n p ≤ 57) ↔ (isD (chM C n p) ∧ (lo = 0 ∨ 0 < dgN (chM C n p))) := by
    unfold dgN isD
    rw [i_le, i_le, i_le, nI_toInt (by omega), show (48 : Int32).toInt = 48 from rfl, show (57 : Int32).toInt = 57 from rfl]
    omega
  rw [bI_cg e1]
  by_cases h1 : isD (chM C n p) ∧ (lo = 0 ∨ 0 < dgN (chM C n p))
  rotate_left
  · refine V_if_ne dX7_number_10 (fun z => absurd z (fun z => z (bI_f h1))) (fun _ => ?_)
    refine V_bipush (v := (-5)) dX7_number_13 (by decide) ?_
    refine V_iret dX7_number_15 rfl rfl rfl ?_
    refine Rw_i ?_ ?_
    · unfold pNum; rw [if_neg h1]
    · unfold pNum; rw [if_neg h1, spm]
  have hpn := inn p h1.1
  have hd := dgN_e h1.1
  refine V_if_ne dX7_number_10 (fun _ => ?_) (fun z => absurd z ((bI_ne0.mpr h1)))
  refine V_aload_n dX7_number_16 rfl ?_
  refine V_bget dX7_number_17 fX7_22 (by decide) rfl (by (try simp only [mset_s, mset_n, pk_us, pk_un, ne_eq, Nat.reduceEqDiff, Nat.reduceAdd, not_false_eq_true, not_true_eq_false]) <;> rfl) ?_
  refine V_aload_n dX7_number_20 rfl ?_
  refine V_bget dX7_number_21 fX7_115 (by decide) rfl (by (try simp only [mset_s, mset_n, pk_us, pk_un, ne_eq, Nat.reduceEqDiff, Nat.reduceAdd, not_false_eq_true, not_true_eq_false]) <;> rfl) ?_
  rw [hp]
  refine V_biald dX7_number_24 (by decide) rfl (by repeat (first | with_reducible rfl | with_reducible exact nlit | with_reducible apply nadd | with_reducible apply nmul | with_reducible apply nsub | with_reducible assumption | omega)) (by omega) (by first | decide | omega) (by (try simp only [mset_s, mset_n, pk_us, pk_un, ne_eq, Nat.reduceEqDiff, Nat.reduceAdd, not_false_eq_true, not_true_eq_false]) <;> rfl) ?_
  rw [hpn.2]
  refine V_bipush (v := 48) dX7_number_25 (by decide) ?_
  refine V_isub dX7_number_27 ?_
  rw [hd.1]
  refine V_istore_n dX7_number_28 (by decide) (by dsimp only [List.set] <;> rfl) ?_
  refine V_aload_n dX7_number_29 rfl ?_
  refine V_dup dX7_number_30 rfl ?_
  refine V_bget dX7_number_31 fX7_115 (by decide) rfl (by (try simp only [mset_s, mset_n, pk_us, pk_un, ne_eq, Nat.reduceEqDiff, Nat.reduceAdd, not_false_eq_true, not_true_eq_false]) <;> rfl) ?_
  rw [hp]
  refine V_iconst (v := 1) dX7_number_34 (by decide) ?_
  refine V_iadd dX7_number_35 ?_
  rw [show nI p + 1 = nI (p + 1) from nI_1 p]
  refine V_bputi (i0 := 4) dX7_number_36 fX7_115 (by decide) rfl rfl rfl (Nat.le_of_ble_eq_true rfl) rfl ?_
  have one : ∀ r, pNum (chM C n) lo hi p = (some (dgN (chM C n p)), r) → r = p + 1 → V G l RX7 "number" cX7_number 4 (some .int) (rmd 2 0 0) E0 (Qm G (Rw G a (.int (oN (pNum (chM C n) lo hi p).1)) (mSp C (pNum (chM C n) lo hi p).2)) sz 0 0) sz 0 0 106 [some (.ref (a + 105)), some (.int (nI lo)), some (.int (nI hi)), some (.int (nI (dgN (chM C n p))))] [] (B G a (mSp C (p + 1))) := by
    intro r hr hr2
    rw [hr, hr2]
    refine V_iload_n dX7_number_106 rfl ?_
    refine V_iret dX7_number_107 rfl rfl rfl ?_
    exact Rw_i rfl rfl
  refine V_iload_n dX7_number_39 rfl ?_
  by_cases hd0 : 0 < dgN (chM C n p)
  rotate_left
  · refine V_if_le dX7_number_40 (fun _ => ?_) (fun z => absurd ((cle (by repeat (first | with_reducible rfl | with_reducible exact nlit | with_reducible apply nadd | with_reducible apply nmul | with_reducible apply nsub | with_reducible assumption | omega)) (by repeat (first | with_reducible rfl | with_reducible exact nlit | with_reducible apply nadd | with_reducible apply nmul | with_reducible apply nsub | with_reducible assumption | omega)) (by omega) (by omega)).mpr (by omega)) z)
    refine one _ ?_ rfl
    unfold pNum
    rw [if_pos h1, if_neg (fun z => hd0 z.1)]
  refine V_if_le dX7_number_40 (fun z => absurd z (fun z => absurd ((cle (by repeat (first | with_reducible rfl | with_reducible exact nlit | with_reducible apply nadd | with_reducible apply nmul | with_reducible apply nsub | with_reducible assumption | omega)) (by repeat (first | with_reducible rfl | with_reducible exact nlit | with_reducible apply nadd | with_reducible apply nmul | with_reducible apply nsub | with_reducible assumption | omega)) (by omega) (by omega)).mp z) (by omega))) (fun _ => ?_)
  refine V_aload_n dX7_number_43 rfl ?_
  refine V_bipush (v := 48) dX7_number_44 (by decide) ?_
  refine V_bipush (v := 57) dX7_number_46 (by decide) ?_
  refine V_callVw dX7_number_48 kX7_118 ykX7_sees (by decide) rfl rfl (tX7_sees (C := mSp C (p + 1)) 48 57 (by decide) (spn _) hn60 (spp _) (by omega)) rfl (Nat.le_of_ble_eq_true rfl) ⟨by decide, by decide, by decide, by decide⟩ ?_
  rw [show chM (mSp C (p + 1)) n (p + 1) = chM C n (p + 1) from rfl]
  by_cases h2 : isD (chM C n (p + 1))
  rotate_left
  · refine V_if_eq dX7_number_51 (fun _ => ?_) (fun z => absurd (bI_f h2) z)
    refine one _ ?_ rfl
    unfold pNum
    rw [if_pos h1, if_neg (fun z => h2 z.2.1)]
  have hpn2 := inn _ h2
  have hd2 := dgN_e h2
  refine V_if_eq dX7_number_51 (fun z => absurd z (bI_ne0.mpr h2)) (fun _ => ?_)
  refine V_bipush (v := 10) dX7_number_54 (by decide) ?_
  refine V_iload_n dX7_number_56 rfl ?_
  refine V_imul dX7_number_57 ?_
  refine V_aload_n dX7_number_58 rfl ?_
  refine V_bget dX7_number_59 fX7_22 (by decide) rfl (by (try simp only [mset_s, mset_n, pk_us, pk_un, ne_eq, Nat.reduceEqDiff, Nat.reduceAdd, not_false_eq_true, not_true_eq_false]) <;> rfl) ?_
  refine V_aload_n dX7_number_62 rfl ?_
  refine V_bget dX7_number_63 fX7_115 (by decide) rfl (by (try simp only [mset_s, mset_n, pk_us, pk_un, ne_eq, Nat.reduceEqDiff, Nat.reduceAdd, not_false_eq_true, not_true_eq_false]) <;> rfl) ?_
  try rw [spp]
  refine V_biald dX7_number_66 (by decide) rfl (by repeat (first | with_reducible rfl | with_reducible exact nlit | with_reducible apply nadd | with_reducible apply nmul | with_reducible apply nsub | with_reducible assumption | omega)) (by omega) (by first | decide | omega) (by (try simp only [mset_s, mset_n, pk_us, pk_un, ne_eq, Nat.reduceEqDiff, Nat.reduceAdd, not_false_eq_true, not_true_eq_false]) <;> rfl) ?_
  rw [hpn2.2]
  have e3 : (10 : Int32) * nI (dgN (chM C n p)) + chM C n (p + 1) - 48 = nI (10 * dgN (chM C n p) + dgN (chM C n (p + 1))) := by
    rw [show (10 : Int32) * nI (dgN (chM C n p)) = nI (10 * dgN (chM C n p)) from nmul nlit rfl, Int32.sub_eq_add_neg, Int32.add_assoc, ← Int32.sub_eq_add_neg, hd2.1, nI_add]
  refine V_iadd dX7_number_67 ?_
  refine V_bipush (v := 48) dX7_number_68 (by decide) ?_
  refine V_isub dX7_number_70 ?_
  rw [e3]
  refine V_iload_n dX7_number_71 rfl ?_
  by_cases h3 : 10 * dgN (chM C n p) + dgN (chM C n (p + 1)) ≤ hi
  rotate_left
  · refine V_icmp_gt dX7_number_72 (fun _ => ?_) (fun z => absurd ((clt (by repeat (first | with_reducible rfl | with_reducible exact nlit | with_reducible apply nadd | with_reducible apply nmul | with_reducible apply nsub | with_reducible assumption | omega)) (by repeat (first | with_reducible rfl | with_reducible exact nlit | with_reducible apply nadd | with_reducible apply nmul | with_reducible apply nsub | with_reducible assumption | omega)) (by omega) (by omega)).mpr (by omega)) z)
    refine one _ ?_ rfl
    unfold pNum
    rw [if_pos h1, if_neg (fun z => h3 z.2.2)]
  refine V_icmp_gt dX7_number_72 (fun z => absurd z (fun z => absurd ((clt (by repeat (first | with_reducible rfl | with_reducible exact nlit | with_reducible apply nadd | with_reducible apply nmul | with_reducible apply nsub | with_reducible assumption | omega)) (by repeat (first | with_reducible rfl | with_reducible exact nlit | with_reducible apply nadd | with_reducible apply nmul | with_reducible apply nsub | with_reducible assumption | omega)) (by omega) (by omega)).mp z) (by omega))) (fun _ => ?_)
  refine V_bipush (v := 10) dX7_number_75 (by decide) ?_
  refine V_iload_n dX7_number_77 rfl ?_
  refine V_imul dX7_number_78 ?_
  refine V_aload_n dX7_number_79 rfl ?_
  refine V_bget dX7_number_80 fX7_22 (by decide) rfl (by (try simp only [mset_s, mset_n, pk_us, pk_un, ne_eq, Nat.reduceEqDiff, Nat.reduceAdd, not_false_eq_true, not_true_eq_false]) <;> rfl) ?_
  refine V_aload_n dX7_number_83 rfl ?_
  refine V_bget dX7_number_84 fX7_115 (by decide) rfl (by (try simp only [mset_s, mset_n, pk_us, pk_un, ne_eq, Nat.reduceEqDiff, Nat.reduceAdd, not_false_eq_true, not_true_eq_false]) <;> rfl) ?_
  try rw [spp]
  refine V_biald dX7_number_87 (by decide) rfl (by repeat (first | with_reducible rfl | with_reducible exact nlit | with_reducible apply nadd | with_reducible apply nmul | with_reducible apply nsub | with_reducible assumption | omega)) (by omega) (by first | decide | omega) (by (try simp only [mset_s, mset_n, pk_us, pk_un, ne_eq, Nat.reduceEqDiff, Nat.reduceAdd, not_false_eq_true, not_true_eq_false]) <;> rfl) ?_
  rw [hpn2.2]
  refine V_iadd dX7_number_88 ?_
  refine V_bipush (v := 48) dX7_number_89 (by decide) ?_
  refine V_isub dX7_number_91 ?_
  rw [e3]
  refine V_istore_n dX7_number_92 (by decide) (by dsimp only [List.set] <;> rfl) ?_
  refine V_aload_n dX7_number_93 rfl ?_
  refine V_dup dX7_number_94 rfl ?_
  refine V_bget dX7_number_95 fX7_115 (by decide) rfl (by (try simp only [mset_s, mset_n, pk_us, pk_un, ne_eq, Nat.reduceEqDiff, Nat.reduceAdd, not_false_eq_true, not_true_eq_false]) <;> rfl) ?_
  try rw [spp]
  refine V_iconst (v := 1) dX7_number_98 (by decide) ?_
  refine V_iadd dX7_number_99 ?_
  rw [show nI (p + 1) + 1 = nI (p + 2) from nI_1 (p + 1)]
  refine V_bputi (i0 := 4) dX7_number_100 fX7_115 (by decide) rfl rfl rfl (Nat.le_of_ble_eq_true rfl) rfl ?_
  rw [show mset (mSp C (p + 1)) 105 (upd (mSp C (p + 1) 105) 4 (nI (p + 2))) = mSp C (p + 2) from sps _ _]
  have hr : pNum (chM C n) lo hi p = (some (10 * dgN (chM C n p) + dgN (chM C n (p + 1))), p + 2) := by
    unfold pNum
    rw [if_pos h1, if_pos ⟨hd0, h2, h3⟩]
  rw [hr]
  have two : V G l RX7 "number" cX7_number 4 (some .int) (rmd 2 0 0) E0 (Qm G (Rw G a (.int (oN (pNum (chM C n) lo hi p).1)) (mSp C (pNum (chM C n) lo hi p).2)) sz 0 0) sz 0 0 106 [some (.ref (a + 105)), some (.int (nI lo)), some (.int (nI hi)), some (.int (nI (10 * dgN (chM C n p) + dgN (chM C n (p + 1)))))] [] (B G a (mSp C (p + 2))) := by
    rw [hr]
    refine V_iload_n dX7_number_106 rfl ?_
    refine V_iret dX7_number_107 rfl rfl rfl ?_
    exact Rw_i rfl rfl
  rw [hr] at two
  refine V_goto dX7_number_103 ?_
  refine V_iload_n dX7_number_39 rfl ?_
  refine V_if_le dX7_number_40 (fun z => absurd z (fun z => absurd ((cle (by repeat (first | with_reducible rfl | with_reducible exact nlit | with_reducible apply nadd | with_reducible apply nmul | with_reducible apply nsub | with_reducible assumption | omega)) (by repeat (first | with_reducible rfl | with_reducible exact nlit | with_reducible apply nadd | with_reducible apply nmul | with_reducible apply nsub | with_reducible assumption | omega)) (by omega) (by omega)).mp z) (by omega))) (fun _ => ?_)
  refine V_aload_n dX7_number_43 rfl ?_
  refine V_bipush (v := 48) dX7_number_44 (by decide) ?_
  refine V_bipush (v := 57) dX7_number_46 (by decide) ?_
  refine V_callVw dX7_number_48 kX7_118 ykX7_sees (by decide) rfl rfl (tX7_sees (C := mSp C (p + 2)) 48 57 (by decide) (spn _) hn60 (spp _) (by omega)) rfl (Nat.le_of_ble_eq_true rfl) ⟨by decide, by decide, by decide, by decide⟩ ?_
  rw [show chM (mSp C (p + 2)) n (p + 2) = chM C n (p + 2) from rfl]
  by_cases h4 : isD (chM C n (p + 2))
  rotate_left
  · refine V_if_eq dX7_number_51 (fun _ => ?_) (fun z => absurd (bI_f h4) z)
    exact two
  have hpn4 := inn _ h4
  have hd4 := dgN_e h4
  refine V_if_eq dX7_number_51 (fun z => absurd z (bI_ne0.mpr h4)) (fun _ => ?_)
  refine V_bipush (v := 10) dX7_number_54 (by decide) ?_
  refine V_iload_n dX7_number_56 rfl ?_
  refine V_imul dX7_number_57 ?_
  refine V_aload_n dX7_number_58 rfl ?_
  refine V_bget dX7_number_59 fX7_22 (by decide) rfl (by (try simp only [mset_s, mset_n, pk_us, pk_un, ne_eq, Nat.reduceEqDiff, Nat.reduceAdd, not_false_eq_true, not_true_eq_false]) <;> rfl) ?_
  refine V_aload_n dX7_number_62 rfl ?_
  refine V_bget dX7_number_63 fX7_115 (by decide) rfl (by (try simp only [mset_s, mset_n, pk_us, pk_un, ne_eq, Nat.reduceEqDiff, Nat.reduceAdd, not_false_eq_true, not_true_eq_false]) <;> rfl) ?_
  try rw [spp]
  refine V_biald dX7_number_66 (by decide) rfl (by repeat (first | with_reducible rfl | with_reducible exact nlit | with_reducible apply nadd | with_reducible apply nmul | with_reducible apply nsub | with_reducible assumption | omega)) (by omega) (by first | decide | omega) (by (try simp only [mset_s, mset_n, pk_us, pk_un, ne_eq, Nat.reduceEqDiff, Nat.reduceAdd, not_false_eq_true, not_true_eq_false]) <;> rfl) ?_
  rw [hpn4.2]
  have e5 : (10 : Int32) * nI (10 * dgN (chM C n p) + dgN (chM C n (p + 1))) + chM C n (p + 2) - 48 = nI (10 * (10 * dgN (chM C n p) + dgN (chM C n (p + 1))) + dgN (chM C n (p + 2))) := by
    rw [show (10 : Int32) * nI (10 * dgN (chM C n p) + dgN (chM C n (p + 1))) = nI (10 * (10 * dgN (chM C n p) + dgN (chM C n (p + 1)))) from nmul nlit rfl, Int32.sub_eq_add_neg, Int32.add_assoc, ← Int32.sub_eq_add_neg, hd4.1, nI_add]
  refine V_iadd dX7_number_67 ?_
  refine V_bipush (v := 48) dX7_number_68 (by decide) ?_
  refine V_isub dX7_number_70 ?_
  rw [e5]
  refine V_iload_n dX7_number_71 rfl ?_
  refine V_icmp_gt dX7_number_72 (fun _ => ?_) (fun z => absurd ((clt (by repeat (first | with_reducible rfl | with_reducible exact nlit | with_reducible apply nadd | with_reducible apply nmul | with_reducible apply nsub | with_reducible assumption | omega)) (by repeat (first | with_reducible rfl | with_reducible exact nlit | with_reducible apply nadd | with_reducible apply nmul | with_reducible apply nsub | with_reducible assumption | omega)) (by omega) (by omega)).mpr (by omega)) z)
  exact two
set_option maxHeartbeats 4000000 in
theorem tX7_verbBy (c : Int32) {h : Hp} : Ct G l yX7_verbBy cX7_verbBy 1 (some .int) 0 0 0 sz [.int c] h (Rd (.int (oN (vB c))) h) := by
  refine Ct.of (own := RX7) (mn := "verbBy") (L0 := [some (.int c)]) (by decide +kernel) rfl rfl rfl (Nat.le_of_ble_eq_true rfl) rfl ?_
  refine V_iload_n dX7_verbBy_0 rfl ?_
  by_cases c1 : c = 103
  · subst c1
    refine V_look (tg := 60) dX7_verbBy_1 (by decide) (off := 59) (by decide) rfl ?_
    refine V_iconst (v := 0) dX7_verbBy_60 (by decide) ?_
    refine V_iret dX7_verbBy_61 rfl rfl rfl ?_
    exact Rd_i rfl
  by_cases c2 : c = 119
  · subst c2
    refine V_look (tg := 62) dX7_verbBy_1 (by decide) (off := 61) (by decide) rfl ?_
    refine V_iconst (v := 1) dX7_verbBy_62 (by decide) ?_
    refine V_iret dX7_verbBy_63 rfl rfl rfl ?_
    exact Rd_i rfl
  by_cases c3 : c = 97
  · subst c3
    refine V_look (tg := 64) dX7_verbBy_1 (by decide) (off := 63) (by decide) rfl ?_
    refine V_iconst (v := 2) dX7_verbBy_64 (by decide) ?_
    refine V_iret dX7_verbBy_65 rfl rfl rfl ?_
    exact Rd_i rfl
  by_cases c4 : c = 99
  · subst c4
    refine V_look (tg := 66) dX7_verbBy_1 (by decide) (off := 65) (by decide) rfl ?_
    refine V_iconst (v := 3) dX7_verbBy_66 (by decide) ?_
    refine V_iret dX7_verbBy_67 rfl rfl rfl ?_
    exact Rd_i rfl
  by_cases c5 : c = 115
  · subst c5
    refine V_look (tg := 68) dX7_verbBy_1 (by decide) (off := 67) (by decide) rfl ?_
    refine V_iconst (v := 4) dX7_verbBy_68 (by decide) ?_
    refine V_iret dX7_verbBy_69 rfl rfl rfl ?_
    exact Rd_i rfl
  by_cases c6 : c = 116
  · subst c6
    refine V_look (tg := 70) dX7_verbBy_1 (by decide) (off := 69) (by decide) rfl ?_
    refine V_iconst (v := 5) dX7_verbBy_70 (by decide) ?_
    refine V_iret dX7_verbBy_71 rfl rfl rfl ?_
    exact Rd_i rfl
  refine V_look (tg := 72) dX7_verbBy_1 (by decide) (off := 71) ?_ rfl ?_
  · have n1 := lv_neT c3 (a := 97) rfl
    have n2 := lv_neT c4 (a := 99) rfl
    have n3 := lv_neT c1 (a := 103) rfl
    have n4 := lv_neT c5 (a := 115) rfl
    have n5 := lv_neT c6 (a := 116) rfl
    have n6 := lv_neT c2 (a := 119) rfl
    simp [Op.lookupswitch.offset, n1, n2, n3, n4, n5, n6, Ne.symm n1, Ne.symm n2, Ne.symm n3, Ne.symm n4, Ne.symm n5, Ne.symm n6]
  refine V_bipush (v := (-5)) dX7_verbBy_72 (by decide) ?_
  refine V_iret dX7_verbBy_74 rfl rfl rfl ?_
  exact Rd_i (by unfold vB; rw [if_neg c1, if_neg c2, if_neg c3, if_neg c4, if_neg c5, if_neg c6])
end MODEL
