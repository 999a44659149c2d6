/-! TryLoopsModel: step, record, end, dropTry. -/
def zRec (z : Nat → Int32) (tc len : Nat) (v x : Int32) : Nat → Int32 := upd (upd (upd z (38 + 25 * tc + 1 + 2 * len) v) (38 + 25 * tc + 2 + 2 * len) x) (38 + 25 * tc) (nI (len + 1))
def zStp (z : Nat → Int32) (tc len : Nat) (v x : Int32) : Nat → Int32 := if z 32 = 1 then zRec z tc len v x else z
def mStepA (z : Nat → Int32) (tc len hd : Nat) (v x : Int32) : Int32 :=
  if ¬ (0 ≤ v ∧ v ≤ 5) then -1 else if ¬ inR v x then -2 else if z 32 = 1 ∧ len = 12 then -3
  else if pStep (zStp z tc len v x) hd v x.toInt.toNat then zStep (zStp z tc len v x) hd v x.toInt.toNat (if v = 0 then x.toInt.toNat else hd) else 100
def mStepC (C : CT) (st tc len hd : Nat) (v x : Int32) : CT :=
  if ¬ (0 ≤ v ∧ v ≤ 5) then C else if ¬ inR v x then C else if C 106 32 = 1 ∧ len = 12 then C
  else mset (mSave C st) 106 (zStep (zStp (C 106) tc len v x) hd v x.toInt.toNat)
theorem gN_29 {v : Int32} : (gN v = 29 ∧ (v = 0 ∨ v = 3 ∨ v = 4)) ∨ (gN v = 99 ∧ ¬ (v = 0 ∨ v = 3 ∨ v = 4)) := by
  unfold gN
  by_cases h : v = 0 ∨ v = 3 ∨ v = 4
  · rw [if_pos h]; exact Or.inl ⟨rfl, h⟩
  · rw [if_neg h]; exact Or.inr ⟨rfl, h⟩
theorem inR_nat {v x : Int32} (h : inR v x) : x = nI x.toInt.toNat ∧ x.toInt.toNat < 100 ∧ ((v = 0 ∨ v = 3 ∨ v = 4) → x.toInt.toNat < 30) := by
  obtain ⟨h1, h2⟩ := h
  rw [i_le] at h1 h2
  have h0 : (0 : Int32).toInt = 0 := rfl
  have h29 : (29 : Int32).toInt = 29 := rfl
  have h99 : (99 : Int32).toInt = 99 := rfl
  refine ⟨nI_ex (by omega), ?_, ?_⟩
  · rcases gN_29 (v := v) with ⟨e, -⟩ | ⟨e, -⟩ <;> rw [e] at h2 <;> omega
  · intro hv
    rcases gN_29 (v := v) with ⟨e, -⟩ | ⟨e, n⟩
    · rw [e] at h2; omega
    · exact absurd hv n
section MODEL
variable {G : GT} {l : Launch} {sz a : Nat} {C : CT}
theorem zStp_n {z : Nat → Int32} {tc len : Nat} {v x : Int32} {j : Nat} (hj : j < 38) : zStp z tc len v x j = z j := by
  unfold zStp zRec
  split
  · rw [pk_un (by omega), pk_un (by omega), pk_un (by omega)]
  · rfl
theorem zStep_30 {z : Nat → Int32} {hd m : Nat} {v : Int32} (h30 : z 30 = nI hd) (hhd : hd < 30) (hm : v = 3 ∨ v = 4 → m < 30) : zStep z hd v m 30 = nI (if v = 0 then m else hd) := by
  unfold zStep
  by_cases v0 : v = 0
  · rw [if_pos v0, if_pos v0, pk_us]
  rw [if_neg v0, if_neg v0]
  by_cases v1 : v = 1
  · rw [if_pos v1, pk_un (by omega), pk_un (by decide), h30]
  rw [if_neg v1]
  by_cases v2 : v = 2
  · rw [if_pos v2, pk_un (by omega), pk_un (by decide), h30]
  rw [if_neg v2]
  by_cases v3 : v = 3
  · rw [if_pos v3, pk_un (by omega), pk_un (by decide), h30]
  rw [if_neg v3]
  by_cases v4 : v = 4
  · have := hm (Or.inr v4)
    rw [if_pos v4, pk_un (by omega), pk_un (by omega), pk_un (by decide), h30]
  rw [if_neg v4, pk_un (by decide), pk_un (by decide), h30]
set_option maxHeartbeats 4000000 in
theorem tX7_step {st tc len hd : Nat} (v x : Int32) (hst : st ≤ 4) (h0 : C 105 0 = nI st) (h30 : C 106 30 = nI hd) (hhd : hd < 30) (h31 : C 106 31 = nI tc) (hop : C 106 32 = 1 → tc < 6 ∧ C 106 (38 + 25 * tc) = nI len ∧ len ≤ 12) : Ct G l yX7_step cX7_step 4 (some .int) 2 0 0 sz [.ref (a + 105), .int v, .int x] (B G a C) (Rw G a (.int (mStepA (C 106) tc len hd v x)) (mStepC C st tc len hd v x)) := by
  refine Ct.of (own := RX7) (mn := "step") (L0 := [some (.ref (a + 105)), some (.int v), some (.int x), none]) (by decide +kernel) rfl rfl rfl (Nat.le_of_ble_eq_true rfl) rfl ?_
  refine V_iload_n dX7_step_0 rfl ?_
  refine V_iconst (v := 0) dX7_step_1 (by decide) ?_
  refine V_iconst (v := 5) dX7_step_2 (by decide) ?_
  refine V_callSw dX7_step_3 kX7_37 ykX7_in (tX7_in _ _ _) rfl (Nat.le_of_ble_eq_true rfl) ⟨by decide, by decide, by decide, by decide⟩ ?_
  by_cases hv : 0 ≤ v ∧ v ≤ 5
  rotate_left
  · refine V_if_ne dX7_step_6 (fun z => absurd z (fun z => z (bI_f hv))) (fun _ => ?_)
    refine V_iconst (v := (-1)) dX7_step_9 (by decide) ?_
    refine V_iret dX7_step_10 rfl rfl rfl ?_
    exact Rw_i (by unfold mStepA; rw [if_pos hv]) (by unfold mStepC; rw [if_pos hv])
  refine V_if_ne dX7_step_6 (fun _ => ?_) (fun z => absurd z ((bI_ne0.mpr hv)))
  refine V_iload_n dX7_step_11 rfl ?_
  refine V_iconst (v := 0) dX7_step_12 (by decide) ?_
  refine V_iload_n dX7_step_13 rfl ?_
  refine V_callSw dX7_step_14 kX7_56 ykX7_greatest (tX7_greatest _) rfl (Nat.le_of_ble_eq_true rfl) ⟨by decide, by decide, by decide, by decide⟩ ?_
  refine V_callSw dX7_step_17 kX7_37 ykX7_in (tX7_in _ _ _) rfl (Nat.le_of_ble_eq_true rfl) ⟨by decide, by decide, by decide, by decide⟩ ?_
  by_cases hx : inR v x
  rotate_left
  · refine V_if_ne dX7_step_20 (fun z => absurd z (fun z => z (bI_f hx))) (fun _ => ?_)
    refine V_bipush (v := (-2)) dX7_step_23 (by decide) ?_
    refine V_iret dX7_step_25 rfl rfl rfl ?_
    exact Rw_i (by unfold mStepA; rw [if_neg (fun z => z hv), if_pos hx]) (by unfold mStepC; rw [if_neg (fun z => z hv), if_pos hx])
  refine V_if_ne dX7_step_20 (fun _ => ?_) (fun z => absurd z ((bI_ne0.mpr hx)))
  obtain ⟨ex, hm, hm3⟩ := inR_nat hx
  have e1 : mSave C st 106 = C 106 := by unfold mSave; simp only [mset_s, mset_ss, mset_n, pk_us, pk_un, uus, ne_eq, Nat.reduceEqDiff, Nat.reduceAdd, not_false_eq_true, not_true_eq_false]
  have go : ∀ L3 : Option Value, ¬ (C 106 32 = 1 ∧ len = 12) → V G l RX7 "step" cX7_step 4 (some .int) (rmd 2 0 0) E0 (Qm G (Rw G a (.int (mStepA (C 106) tc len hd v x)) (mStepC C st tc len hd v x)) sz 0 0) sz 0 0 56 [some (.ref (a + 105)), some (.int v), some (.int x), L3] [] (B G a C) := by
    intro L3 hnf
    have fin : ∀ L4 : Option Value, V G l RX7 "step" cX7_step 4 (some .int) (rmd 2 0 0) E0 (Qm G (Rw G a (.int (mStepA (C 106) tc len hd v x)) (mStepC C st tc len hd v x)) sz 0 0) sz 0 0 131 [some (.ref (a + 105)), some (.int v), some (.int x), L4] [] (B G a (mset (mSave C st) 106 (zStp (C 106) tc len v x))) := by
      intro L4
      generalize hz : zStp (C 106) tc len v x = z1
      have z30 : z1 30 = nI hd := by rw [← hz, zStp_n (by decide), h30]
      refine V_aload_n dX7_step_131 rfl ?_
      refine V_iload_n dX7_step_132 rfl ?_
      refine V_iload_n dX7_step_133 rfl ?_
      refine V_toe ex ?_
      refine V_callVw dX7_step_134 kX7_63 ykX7_doStep (by decide) rfl rfl (tX7_doStep (C := mset (mSave C st) 106 z1) (hd := hd) (by rw [mset_s]; exact z30) hhd (fun q => hm3 (Or.inr q)) hm) rfl (Nat.le_of_ble_eq_true rfl) ⟨by decide, by decide, by decide, by decide⟩ ?_
      simp only [mset_s, mset_ss]
      by_cases hp : pStep z1 hd v x.toInt.toNat
      · refine V_if_eq dX7_step_137 (fun z => absurd z (bI_ne0.mpr hp)) (fun _ => ?_)
        refine V_aload_n dX7_step_140 rfl ?_
        refine V_bget dX7_step_141 fX7_7 (by decide) rfl (by (try simp only [mset_s, mset_n, pk_us, pk_un, ne_eq, Nat.reduceEqDiff, Nat.reduceAdd, not_false_eq_true, not_true_eq_false]) <;> rfl) ?_
        refine V_aload_n dX7_step_144 rfl ?_
        refine V_bget dX7_step_145 fX7_7 (by decide) rfl (by (try simp only [mset_s, mset_n, pk_us, pk_un, ne_eq, Nat.reduceEqDiff, Nat.reduceAdd, not_false_eq_true, not_true_eq_false]) <;> rfl) ?_
        refine V_bipush (v := 30) dX7_step_148 (by decide) ?_
        refine V_biald dX7_step_150 (by decide) rfl (by repeat (first | with_reducible rfl | with_reducible exact nlit | with_reducible apply nadd | with_reducible apply nmul | with_reducible apply nsub | with_reducible assumption | omega)) (by omega) (by first | decide | omega) (by (try simp only [mset_s, mset_n, pk_us, pk_un, ne_eq, Nat.reduceEqDiff, Nat.reduceAdd, not_false_eq_true, not_true_eq_false]) <;> rfl) ?_
        rw [zStep_30 z30 hhd (fun q => hm3 (Or.inr q))]
        have hj : (if v = 0 then x.toInt.toNat else hd) < 30 := by
          split
          · exact hm3 (Or.inl ‹_›)
          · exact hhd
        refine V_biald dX7_step_151 (by decide) rfl rfl (by omega) (by first | decide | omega) (by (try simp only [mset_s, mset_n, pk_us, pk_un, ne_eq, Nat.reduceEqDiff, Nat.reduceAdd, not_false_eq_true, not_true_eq_false]) <;> rfl) ?_
        refine V_goto dX7_step_152 ?_
        refine V_iret dX7_step_157 rfl rfl rfl ?_
        refine Rw_i ?_ ?_
        · unfold mStepA
          rw [if_neg (c := ¬ (0 ≤ v ∧ v ≤ 5)) (fun z => z hv), if_neg (c := ¬ inR v x) (fun z => z hx), if_neg (c := C 106 32 = 1 ∧ len = 12) hnf, hz, if_pos (c := pStep z1 hd v x.toInt.toNat) hp]
        · unfold mStepC
          rw [if_neg (c := ¬ (0 ≤ v ∧ v ≤ 5)) (fun z => z hv), if_neg (c := ¬ inR v x) (fun z => z hx), if_neg (c := C 106 32 = 1 ∧ len = 12) hnf, hz]
      · refine V_if_eq dX7_step_137 (fun _ => ?_) (fun z => absurd (bI_f hp) z)
        refine V_bipush (v := 100) dX7_step_155 (by decide) ?_
        refine V_iret dX7_step_157 rfl rfl rfl ?_
        refine Rw_i ?_ ?_
        · unfold mStepA
          rw [if_neg (c := ¬ (0 ≤ v ∧ v ≤ 5)) (fun z => z hv), if_neg (c := ¬ inR v x) (fun z => z hx), if_neg (c := C 106 32 = 1 ∧ len = 12) hnf, hz, if_neg (c := pStep z1 hd v x.toInt.toNat) hp]
        · unfold mStepC
          rw [if_neg (c := ¬ (0 ≤ v ∧ v ≤ 5)) (fun z => z hv), if_neg (c := ¬ inR v x) (fun z => z hx), if_neg (c := C 106 32 = 1 ∧ len = 12) hnf, hz]
    refine V_aload_n dX7_step_56 rfl ?_
    refine V_callVu dX7_step_57 kX7_53 ykX7_save (by decide) rfl rfl (tX7_save hst h0) rfl (Nat.le_of_ble_eq_true rfl) ⟨by decide, by decide, by decide, by decide⟩ ?_
    refine V_aload_n dX7_step_60 rfl ?_
    refine V_bget dX7_step_61 fX7_7 (by decide) rfl (by (try simp only [mset_s, mset_n, pk_us, pk_un, ne_eq, Nat.reduceEqDiff, Nat.reduceAdd, not_false_eq_true, not_true_eq_false]) <;> rfl) ?_
    refine V_bipush (v := 32) dX7_step_64 (by decide) ?_
    refine V_biald dX7_step_66 (by decide) rfl (by repeat (first | with_reducible rfl | with_reducible exact nlit | with_reducible apply nadd | with_reducible apply nmul | with_reducible apply nsub | with_reducible assumption | omega)) (by omega) (by first | decide | omega) (by (try simp only [mset_s, mset_n, pk_us, pk_un, ne_eq, Nat.reduceEqDiff, Nat.reduceAdd, not_false_eq_true, not_true_eq_false]) <;> rfl) ?_
    rw [e1]
    refine V_iconst (v := 1) dX7_step_67 (by decide) ?_
    by_cases ho : C 106 32 = 1
    · obtain ⟨t6, hl, hl12⟩ := hop ho
      have hl11 : len < 12 := by
        rcases Nat.lt_or_ge len 12 with q | q
        · exact q
        · exact absurd ⟨ho, by omega⟩ hnf
      refine V_icmp_ne dX7_step_68 (fun z => absurd z (fun z => z ho)) (fun _ => ?_)
      refine V_bipush (v := 38) dX7_step_71 (by decide) ?_
      refine V_bipush (v := 25) dX7_step_73 (by decide) ?_
      refine V_aload_n dX7_step_75 rfl ?_
      refine V_bget dX7_step_76 fX7_7 (by decide) rfl (by (try simp only [mset_s, mset_n, pk_us, pk_un, ne_eq, Nat.reduceEqDiff, Nat.reduceAdd, not_false_eq_true, not_true_eq_false]) <;> rfl) ?_
      refine V_bipush (v := 31) dX7_step_79 (by decide) ?_
      refine V_biald dX7_step_81 (by decide) rfl (by repeat (first | with_reducible rfl | with_reducible exact nlit | with_reducible apply nadd | with_reducible apply nmul | with_reducible apply nsub | with_reducible assumption | omega)) (by omega) (by first | decide | omega) (by (try simp only [mset_s, mset_n, pk_us, pk_un, ne_eq, Nat.reduceEqDiff, Nat.reduceAdd, not_false_eq_true, not_true_eq_false]) <;> rfl) ?_
      rw [e1, h31]
      refine V_imul dX7_step_82 ?_
      refine V_iadd dX7_step_83 ?_
      rw [show (38 : Int32) + 25 * nI tc = nI (38 + 25 * tc) from nadd nlit (nmul nlit rfl)]
      refine V_istore_n dX7_step_84 (by decide) (by dsimp only [List.set] <;> rfl) ?_
      refine V_aload_n dX7_step_85 rfl ?_
      refine V_bget dX7_step_86 fX7_7 (by decide) rfl (by (try simp only [mset_s, mset_n, pk_us, pk_un, ne_eq, Nat.reduceEqDiff, Nat.reduceAdd, not_false_eq_true, not_true_eq_false]) <;> rfl) ?_
      refine V_iload_n dX7_step_89 rfl ?_
      refine V_iconst (v := 1) dX7_step_90 (by decide) ?_
      refine V_iadd dX7_step_91 ?_
      refine V_iconst (v := 2) dX7_step_92 (by decide) ?_
      refine V_aload_n dX7_step_93 rfl ?_
      refine V_bget dX7_step_94 fX7_7 (by decide) rfl (by (try simp only [mset_s, mset_n, pk_us, pk_un, ne_eq, Nat.reduceEqDiff, Nat.reduceAdd, not_false_eq_true, not_true_eq_false]) <;> rfl) ?_
      refine V_iload_n dX7_step_97 rfl ?_
      refine V_biald dX7_step_98 (by decide) rfl (by repeat (first | with_reducible rfl | with_reducible exact nlit | with_reducible apply nadd | with_reducible apply nmul | with_reducible apply nsub | with_reducible assumption | omega)) (by omega) (by first | decide | omega) (by (try simp only [mset_s, mset_n, pk_us, pk_un, ne_eq, Nat.reduceEqDiff, Nat.reduceAdd, not_false_eq_true, not_true_eq_false]) <;> rfl) ?_
      rw [e1, hl]
      refine V_imul dX7_step_99 ?_
      refine V_iadd dX7_step_100 ?_
      refine V_iload_n dX7_step_101 rfl ?_
      refine V_biast dX7_step_102 (by decide) (fun _ => rfl) (by repeat (first | with_reducible rfl | with_reducible exact nlit | with_reducible apply nadd | with_reducible apply nmul | with_reducible apply nsub | with_reducible assumption | omega)) (by omega) (by first | decide | omega) ?_
      refine V_aload_n dX7_step_103 rfl ?_
      refine V_bget dX7_step_104 fX7_7 (by decide) rfl (by (try simp only [mset_s, mset_n, pk_us, pk_un, ne_eq, Nat.reduceEqDiff, Nat.reduceAdd, not_false_eq_true, not_true_eq_false]) <;> rfl) ?_
      refine V_iload_n dX7_step_107 rfl ?_
      refine V_iconst (v := 2) dX7_step_108 (by decide) ?_
      refine V_iadd dX7_step_109 ?_
      refine V_iconst (v := 2) dX7_step_110 (by decide) ?_
      refine V_aload_n dX7_step_111 rfl ?_
      refine V_bget dX7_step_112 fX7_7 (by decide) rfl (by (try simp only [mset_s, mset_n, pk_us, pk_un, ne_eq, Nat.reduceEqDiff, Nat.reduceAdd, not_false_eq_true, not_true_eq_false]) <;> rfl) ?_
      refine V_iload_n dX7_step_115 rfl ?_
      refine V_biald dX7_step_116 (by decide) rfl (by repeat (first | with_reducible rfl | with_reducible exact nlit | with_reducible apply nadd | with_reducible apply nmul | with_reducible apply nsub | with_reducible assumption | omega)) (by omega) (by first | decide | omega) (by (try simp only [mset_s, mset_n, pk_us, pk_un, ne_eq, Nat.reduceEqDiff, Nat.reduceAdd, not_false_eq_true, not_true_eq_false]) <;> rfl) ?_
      rw [e1, show upd (C 106) (38 + 25 * tc + 1 + 2 * len) v (38 + 25 * tc) = nI len from by rw [pk_un (by omega), hl]]
      refine V_imul dX7_step_117 ?_
      refine V_iadd dX7_step_118 ?_
      refine V_iload_n dX7_step_119 rfl ?_
      refine V_biast dX7_step_120 (by decide) (fun _ => rfl) (by repeat (first | with_reducible rfl | with_reducible exact nlit | with_reducible apply nadd | with_reducible apply nmul | with_reducible apply nsub | with_reducible assumption | omega)) (by omega) (by first | decide | omega) ?_
      refine V_aload_n dX7_step_121 rfl ?_
      refine V_bget dX7_step_122 fX7_7 (by decide) rfl (by (try simp only [mset_s, mset_n, pk_us, pk_un, ne_eq, Nat.reduceEqDiff, Nat.reduceAdd, not_false_eq_true, not_true_eq_false]) <;> rfl) ?_
      refine V_iload_n dX7_step_125 rfl ?_
      refine V_dup2 dX7_step_126 rfl rfl ?_
      refine V_biald dX7_step_127 (by decide) rfl (by repeat (first | with_reducible rfl | with_reducible exact nlit | with_reducible apply nadd | with_reducible apply nmul | with_reducible apply nsub | with_reducible assumption | omega)) (by omega) (by first | decide | omega) (by (try simp only [mset_s, mset_n, pk_us, pk_un, ne_eq, Nat.reduceEqDiff, Nat.reduceAdd, not_false_eq_true, not_true_eq_false]) <;> rfl) ?_
      rw [show upd (upd (C 106) (38 + 25 * tc + 1 + 2 * len) v) (38 + 25 * tc + 2 + 2 * len) x (38 + 25 * tc) = nI len from by rw [pk_un (by omega), pk_un (by omega), hl]]
      refine V_iconst (v := 1) dX7_step_128 (by decide) ?_
      refine V_iadd dX7_step_129 ?_
      rw [show nI len + 1 = nI (len + 1) from nI_1 len]
      refine V_biast dX7_step_130 (by decide) (fun _ => rfl) (by repeat (first | with_reducible rfl | with_reducible exact nlit | with_reducible apply nadd | with_reducible apply nmul | with_reducible apply nsub | with_reducible assumption | omega)) (by omega) (by first | decide | omega) ?_
      simp only [mset_s, mset_ss, e1]
      have := fin (some (.int (nI (38 + 25 * tc))))
      unfold zStp zRec at this
      rw [if_pos ho] at this
      exact this
    · refine V_icmp_ne dX7_step_68 (fun _ => ?_) (fun z => absurd z ho)
      have := fin L3
      unfold zStp at this
      rw [if_neg ho, ← e1, mset_eta] at this
      exact this
  refine V_aload_n dX7_step_26 rfl ?_
  refine V_bget dX7_step_27 fX7_7 (by decide) rfl (by (try simp only [mset_s, mset_n, pk_us, pk_un, ne_eq, Nat.reduceEqDiff, Nat.reduceAdd, not_false_eq_true, not_true_eq_false]) <;> rfl) ?_
  refine V_bipush (v := 32) dX7_step_30 (by decide) ?_
  refine V_biald dX7_step_32 (by decide) rfl (by repeat (first | with_reducible rfl | with_reducible exact nlit | with_reducible apply nadd | with_reducible apply nmul | with_reducible apply nsub | with_reducible assumption | omega)) (by omega) (by first | decide | omega) (by (try simp only [mset_s, mset_n, pk_us, pk_un, ne_eq, Nat.reduceEqDiff, Nat.reduceAdd, not_false_eq_true, not_true_eq_false]) <;> rfl) ?_
  refine V_iconst (v := 1) dX7_step_33 (by decide) ?_
  by_cases ho : C 106 32 = 1
  · obtain ⟨t6, hl, hl12⟩ := hop ho
    refine V_icmp_ne dX7_step_34 (fun z => absurd z (fun z => z ho)) (fun _ => ?_)
    refine V_aload_n dX7_step_37 rfl ?_
    refine V_aload_n dX7_step_38 rfl ?_
    refine V_bget dX7_step_39 fX7_7 (by decide) rfl (by (try simp only [mset_s, mset_n, pk_us, pk_un, ne_eq, Nat.reduceEqDiff, Nat.reduceAdd, not_false_eq_true, not_true_eq_false]) <;> rfl) ?_
    refine V_bipush (v := 31) dX7_step_42 (by decide) ?_
    refine V_biald dX7_step_44 (by decide) rfl (by repeat (first | with_reducible rfl | with_reducible exact nlit | with_reducible apply nadd | with_reducible apply nmul | with_reducible apply nsub | with_reducible assumption | omega)) (by omega) (by first | decide | omega) (by (try simp only [mset_s, mset_n, pk_us, pk_un, ne_eq, Nat.reduceEqDiff, Nat.reduceAdd, not_false_eq_true, not_true_eq_false]) <;> rfl) ?_
    rw [h31]
    refine V_callVw dX7_step_45 kX7_60 ykX7_sizeOf (by decide) rfl rfl (tX7_sizeOf (by omega)) rfl (Nat.le_of_ble_eq_true rfl) ⟨by decide, by decide, by decide, by decide⟩ ?_
    rw [hl]
    refine V_bipush (v := 12) dX7_step_48 (by decide) ?_
    by_cases h12 : len = 12
    · refine V_icmp_ne dX7_step_50 (fun z => absurd z (fun z => z ((ceq (by repeat (first | with_reducible rfl | with_reducible exact nlit | with_reducible apply nadd | with_reducible apply nmul | with_reducible apply nsub | with_reducible assumption | omega)) (by repeat (first | with_reducible rfl | with_reducible exact nlit | with_reducible apply nadd | with_reducible apply nmul | with_reducible apply nsub | with_reducible assumption | omega)) (by omega) (by omega)).mpr (by omega)))) (fun _ => ?_)
      refine V_bipush (v := (-3)) dX7_step_53 (by decide) ?_
      refine V_iret dX7_step_55 rfl rfl rfl ?_
      exact Rw_i (by unfold mStepA; rw [if_neg (fun z => z hv), if_neg (fun z => z hx), if_pos ⟨ho, h12⟩]) (by unfold mStepC; rw [if_neg (fun z => z hv), if_neg (fun z => z hx), if_pos ⟨ho, h12⟩])
    · refine V_icmp_ne dX7_step_50 (fun _ => ?_) (fun z => absurd z ((fun z => absurd ((ceq (by repeat (first | with_reducible rfl | with_reducible exact nlit | with_reducible apply nadd | with_reducible apply nmul | with_reducible apply nsub | with_reducible assumption | omega)) (by repeat (first | with_reducible rfl | with_reducible exact nlit | with_reducible apply nadd | with_reducible apply nmul | with_reducible apply nsub | with_reducible assumption | omega)) (by omega) (by omega)).mp z) (by omega))))
      exact go _ (fun z => h12 z.2)
  · refine V_icmp_ne dX7_step_34 (fun _ => ?_) (fun z => absurd z ho)
    exact go _ (fun z => ho z.1)
end MODEL
