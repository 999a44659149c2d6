/-! TryLoopsModel: doStep, step, record, end, dropTry, setTurns, dropLoop. -/
abbrev isV (v : Int32) : Prop := v = 0 ∨ v = 1 ∨ v = 2 ∨ v = 3 ∨ v = 4
/-- the row of numbers of the model after a step: hd the hand, v the verb, nI m the number -/
def zStep (z : Nat → Int32) (hd : Nat) (v : Int32) (m : Nat) : Nat → Int32 :=
  if v = 0 then upd (upd z 34 (z 34 + 1)) 30 (nI m)
  else if v = 1 then upd (upd z 34 (z 34 + 1)) hd (nI m)
  else if v = 2 then upd (upd z 34 (z 34 + 1)) hd (z hd + nI m - (z hd + nI m) / 100 * 100)
  else if v = 3 then upd (upd z 34 (z 34 + 1)) hd (z m)
  else if v = 4 then upd (upd (upd z 34 (z 34 + 1)) hd (z m)) m (z hd)
  else upd (upd z 34 (z 34 + 1)) 35 (z 35 + (if z hd ≤ nI m then 0 else 1))
abbrev pStep (z : Nat → Int32) (hd : Nat) (v : Int32) (m : Nat) : Prop := isV v ∨ z hd ≤ nI m
section MODEL
variable {G : GT} {l : Launch} {sz a : Nat} {C : CT}
theorem nv_out {v : Int32} (h : ¬ isV v) : v.toInt < 0 ∨ 4 < v.toInt := by
  by_cases h0 : v.toInt < 0
  · exact Or.inl h0
  · refine Or.inr ?_
    have e := nI_ex (x := v) (by omega)
    by_cases h5 : v.toInt.toNat < 5
    · refine absurd ?_ h
      rw [e]
      rcases (show v.toInt.toNat = 0 ∨ v.toInt.toNat = 1 ∨ v.toInt.toNat = 2 ∨ v.toInt.toNat = 3 ∨ v.toInt.toNat = 4 by omega) with z | z | z | z | z <;> rw [z] <;> decide
    · omega
set_option maxHeartbeats 4000000 in
theorem tX7_doStep {hd m : Nat} {v : Int32} (h30 : C 106 30 = nI hd) (hhd : hd < 30) (hm : v = 3 ∨ v = 4 → m < 30) (hm2 : m < 100) : Ct G l yX7_doStep cX7_doStep 5 (some .boolean) 0 0 0 sz [.ref (a + 105), .int v, .int (nI m)] (B G a C) (Rw G a (.int (bI (pStep (C 106) hd v m))) (mset C 106 (zStep (C 106) hd v m))) := by
  refine Ct.of (own := RX7) (mn := "doStep") (L0 := [some (.ref (a + 105)), some (.int v), some (.int (nI m)), none, none]) (by decide +kernel) rfl rfl rfl (Nat.le_of_ble_eq_true rfl) rfl ?_
  refine V_aload_n dX7_doStep_0 rfl ?_
  refine V_bget dX7_doStep_1 fX7_7 (by decide) rfl (by (try simp only [mset_s, mset_n, pk_us, pk_un, ne_eq, Nat.reduceEqDiff, Nat.reduceAdd, not_false_eq_true, not_true_eq_false]) <;> rfl) ?_
  refine V_bipush (v := 30) dX7_doStep_4 (by decide) ?_
  refine V_biald dX7_doStep_6 (by decide) rfl (by repeat (first | with_reducible rfl | with_reducible exact nlit | with_reducible apply nadd | with_reducible apply nmul | with_reducible apply nsub | with_reducible assumption | omega)) (by omega) (by first | decide | omega) (by (try simp only [mset_s, mset_n, pk_us, pk_un, ne_eq, Nat.reduceEqDiff, Nat.reduceAdd, not_false_eq_true, not_true_eq_false]) <;> rfl) ?_
  rw [h30]
  refine V_istore_n dX7_doStep_7 (by decide) (by dsimp only [List.set] <;> rfl) ?_
  refine V_aload_n dX7_doStep_8 rfl ?_
  refine V_bget dX7_doStep_9 fX7_7 (by decide) rfl (by (try simp only [mset_s, mset_n, pk_us, pk_un, ne_eq, Nat.reduceEqDiff, Nat.reduceAdd, not_false_eq_true, not_true_eq_false]) <;> rfl) ?_
  refine V_iload_n dX7_doStep_12 rfl ?_
  refine V_biald dX7_doStep_13 (by decide) rfl (by repeat (first | with_reducible rfl | with_reducible exact nlit | with_reducible apply nadd | with_reducible apply nmul | with_reducible apply nsub | with_reducible assumption | omega)) (by omega) (by first | decide | omega) (by (try simp only [mset_s, mset_n, pk_us, pk_un, ne_eq, Nat.reduceEqDiff, Nat.reduceAdd, not_false_eq_true, not_true_eq_false]) <;> rfl) ?_
  refine V_istore dX7_doStep_14 (by decide) (by dsimp only [List.set] <;> rfl) ?_
  refine V_aload_n dX7_doStep_16 rfl ?_
  refine V_bget dX7_doStep_17 fX7_7 (by decide) rfl (by (try simp only [mset_s, mset_n, pk_us, pk_un, ne_eq, Nat.reduceEqDiff, Nat.reduceAdd, not_false_eq_true, not_true_eq_false]) <;> rfl) ?_
  refine V_bipush (v := 34) dX7_doStep_20 (by decide) ?_
  refine V_dup2 dX7_doStep_22 rfl rfl ?_
  refine V_biald dX7_doStep_23 (by decide) rfl (by repeat (first | with_reducible rfl | with_reducible exact nlit | with_reducible apply nadd | with_reducible apply nmul | with_reducible apply nsub | with_reducible assumption | omega)) (by omega) (by first | decide | omega) (by (try simp only [mset_s, mset_n, pk_us, pk_un, ne_eq, Nat.reduceEqDiff, Nat.reduceAdd, not_false_eq_true, not_true_eq_false]) <;> rfl) ?_
  refine V_iconst (v := 1) dX7_doStep_24 (by decide) ?_
  refine V_iadd dX7_doStep_25 ?_
  refine V_biast dX7_doStep_26 (by decide) (fun _ => rfl) (by repeat (first | with_reducible rfl | with_reducible exact nlit | with_reducible apply nadd | with_reducible apply nmul | with_reducible apply nsub | with_reducible assumption | omega)) (by omega) (by first | decide | omega) ?_
  have hx34 : ∀ j, j < 30 → upd (C 106) 34 (C 106 34 + 1) j = C 106 j := fun j hj => pk_un (by omega)
  refine V_iload_n dX7_doStep_27 rfl ?_
  by_cases v0 : v = 0
  · subst v0
    refine V_tIn (tg := 64) dX7_doStep_28 (by decide) (by decide) rfl rfl ?_
    refine V_aload_n dX7_doStep_64 rfl ?_
    refine V_bget dX7_doStep_65 fX7_7 (by decide) rfl (by (try simp only [mset_s, mset_n, pk_us, pk_un, ne_eq, Nat.reduceEqDiff, Nat.reduceAdd, not_false_eq_true, not_true_eq_false]) <;> rfl) ?_
    refine V_bipush (v := 30) dX7_doStep_68 (by decide) ?_
    refine V_iload_n dX7_doStep_70 rfl ?_
    refine V_biast dX7_doStep_71 (by decide) (fun _ => rfl) (by repeat (first | with_reducible rfl | with_reducible exact nlit | with_reducible apply nadd | with_reducible apply nmul | with_reducible apply nsub | with_reducible assumption | omega)) (by omega) (by first | decide | omega) ?_
    refine V_iconst (v := 1) dX7_doStep_72 (by decide) ?_
    refine V_zret dX7_doStep_73 rfl (by first | rfl | exact bI_nar) rfl rfl ?_
    exact Rw_i (bI_t (Or.inl (Or.inl rfl))).symm (by simp only [mset_s, mset_ss, mset_n, pk_us, pk_un, uus, ne_eq, Nat.reduceEqDiff, Nat.reduceAdd, not_false_eq_true, not_true_eq_false]; rfl)
  by_cases v1 : v = 1
  · subst v1
    refine V_tIn (tg := 74) dX7_doStep_28 (by decide) (by decide) rfl rfl ?_
    refine V_aload_n dX7_doStep_74 rfl ?_
    refine V_bget dX7_doStep_75 fX7_7 (by decide) rfl (by (try simp only [mset_s, mset_n, pk_us, pk_un, ne_eq, Nat.reduceEqDiff, Nat.reduceAdd, not_false_eq_true, not_true_eq_false]) <;> rfl) ?_
    refine V_iload_n dX7_doStep_78 rfl ?_
    refine V_iload_n dX7_doStep_79 rfl ?_
    refine V_biast dX7_doStep_80 (by decide) (fun _ => rfl) (by repeat (first | with_reducible rfl | with_reducible exact nlit | with_reducible apply nadd | with_reducible apply nmul | with_reducible apply nsub | with_reducible assumption | omega)) (by omega) (by first | decide | omega) ?_
    refine V_iconst (v := 1) dX7_doStep_81 (by decide) ?_
    refine V_zret dX7_doStep_82 rfl (by first | rfl | exact bI_nar) rfl rfl ?_
    exact Rw_i (bI_t (Or.inl (Or.inr (Or.inl rfl)))).symm (by simp only [mset_s, mset_ss, mset_n, pk_us, pk_un, uus, ne_eq, Nat.reduceEqDiff, Nat.reduceAdd, not_false_eq_true, not_true_eq_false]; rfl)
  by_cases v2 : v = 2
  · subst v2
    refine V_tIn (tg := 83) dX7_doStep_28 (by decide) (by decide) rfl rfl ?_
    refine V_aload_n dX7_doStep_83 rfl ?_
    refine V_bget dX7_doStep_84 fX7_7 (by decide) rfl (by (try simp only [mset_s, mset_n, pk_us, pk_un, ne_eq, Nat.reduceEqDiff, Nat.reduceAdd, not_false_eq_true, not_true_eq_false]) <;> rfl) ?_
    refine V_iload_n dX7_doStep_87 rfl ?_
    refine V_iload dX7_doStep_88 rfl ?_
    refine V_iload_n dX7_doStep_90 rfl ?_
    refine V_iadd dX7_doStep_91 ?_
    refine V_bipush (v := 100) dX7_doStep_92 (by decide) ?_
    refine V_irem dX7_doStep_94 (by decide) ?_
    refine V_biast dX7_doStep_95 (by decide) (fun _ => rfl) (by repeat (first | with_reducible rfl | with_reducible exact nlit | with_reducible apply nadd | with_reducible apply nmul | with_reducible apply nsub | with_reducible assumption | omega)) (by omega) (by first | decide | omega) ?_
    refine V_iconst (v := 1) dX7_doStep_96 (by decide) ?_
    refine V_zret dX7_doStep_97 rfl (by first | rfl | exact bI_nar) rfl rfl ?_
    exact Rw_i (bI_t (Or.inl (Or.inr (Or.inr (Or.inl rfl))))).symm (by simp only [mset_s, mset_ss, mset_n, pk_us, pk_un, uus, ne_eq, Nat.reduceEqDiff, Nat.reduceAdd, not_false_eq_true, not_true_eq_false]; rfl)
  by_cases v3 : v = 3
  · subst v3
    have hm3 := hm (Or.inl rfl)
    refine V_tIn (tg := 98) dX7_doStep_28 (by decide) (by decide) rfl rfl ?_
    refine V_aload_n dX7_doStep_98 rfl ?_
    refine V_bget dX7_doStep_99 fX7_7 (by decide) rfl (by (try simp only [mset_s, mset_n, pk_us, pk_un, ne_eq, Nat.reduceEqDiff, Nat.reduceAdd, not_false_eq_true, not_true_eq_false]) <;> rfl) ?_
    refine V_iload_n dX7_doStep_102 rfl ?_
    refine V_aload_n dX7_doStep_103 rfl ?_
    refine V_bget dX7_doStep_104 fX7_7 (by decide) rfl (by (try simp only [mset_s, mset_n, pk_us, pk_un, ne_eq, Nat.reduceEqDiff, Nat.reduceAdd, not_false_eq_true, not_true_eq_false]) <;> rfl) ?_
    refine V_iload_n dX7_doStep_107 rfl ?_
    refine V_biald dX7_doStep_108 (by decide) rfl (by repeat (first | with_reducible rfl | with_reducible exact nlit | with_reducible apply nadd | with_reducible apply nmul | with_reducible apply nsub | with_reducible assumption | omega)) (by omega) (by first | decide | omega) (by (try simp only [mset_s, mset_n, pk_us, pk_un, ne_eq, Nat.reduceEqDiff, Nat.reduceAdd, not_false_eq_true, not_true_eq_false]) <;> rfl) ?_
    rw [hx34 m hm3]
    refine V_biast dX7_doStep_109 (by decide) (fun _ => rfl) (by repeat (first | with_reducible rfl | with_reducible exact nlit | with_reducible apply nadd | with_reducible apply nmul | with_reducible apply nsub | with_reducible assumption | omega)) (by omega) (by first | decide | omega) ?_
    refine V_iconst (v := 1) dX7_doStep_110 (by decide) ?_
    refine V_zret dX7_doStep_111 rfl (by first | rfl | exact bI_nar) rfl rfl ?_
    exact Rw_i (bI_t (Or.inl (Or.inr (Or.inr (Or.inr (Or.inl rfl)))))).symm (by simp only [mset_s, mset_ss, mset_n, pk_us, pk_un, uus, ne_eq, Nat.reduceEqDiff, Nat.reduceAdd, not_false_eq_true, not_true_eq_false]; rfl)
  by_cases v4 : v = 4
  · subst v4
    have hm3 := hm (Or.inr rfl)
    refine V_tIn (tg := 112) dX7_doStep_28 (by decide) (by decide) rfl rfl ?_
    refine V_aload_n dX7_doStep_112 rfl ?_
    refine V_bget dX7_doStep_113 fX7_7 (by decide) rfl (by (try simp only [mset_s, mset_n, pk_us, pk_un, ne_eq, Nat.reduceEqDiff, Nat.reduceAdd, not_false_eq_true, not_true_eq_false]) <;> rfl) ?_
    refine V_iload_n dX7_doStep_116 rfl ?_
    refine V_aload_n dX7_doStep_117 rfl ?_
    refine V_bget dX7_doStep_118 fX7_7 (by decide) rfl (by (try simp only [mset_s, mset_n, pk_us, pk_un, ne_eq, Nat.reduceEqDiff, Nat.reduceAdd, not_false_eq_true, not_true_eq_false]) <;> rfl) ?_
    refine V_iload_n dX7_doStep_121 rfl ?_
    refine V_biald dX7_doStep_122 (by decide) rfl (by repeat (first | with_reducible rfl | with_reducible exact nlit | with_reducible apply nadd | with_reducible apply nmul | with_reducible apply nsub | with_reducible assumption | omega)) (by omega) (by first | decide | omega) (by (try simp only [mset_s, mset_n, pk_us, pk_un, ne_eq, Nat.reduceEqDiff, Nat.reduceAdd, not_false_eq_true, not_true_eq_false]) <;> rfl) ?_
    rw [hx34 m hm3]
    refine V_biast dX7_doStep_123 (by decide) (fun _ => rfl) (by repeat (first | with_reducible rfl | with_reducible exact nlit | with_reducible apply nadd | with_reducible apply nmul | with_reducible apply nsub | with_reducible assumption | omega)) (by omega) (by first | decide | omega) ?_
    refine V_aload_n dX7_doStep_124 rfl ?_
    refine V_bget dX7_doStep_125 fX7_7 (by decide) rfl (by (try simp only [mset_s, mset_n, pk_us, pk_un, ne_eq, Nat.reduceEqDiff, Nat.reduceAdd, not_false_eq_true, not_true_eq_false]) <;> rfl) ?_
    refine V_iload_n dX7_doStep_128 rfl ?_
    refine V_iload dX7_doStep_129 rfl ?_
    refine V_biast dX7_doStep_131 (by decide) (fun _ => rfl) (by repeat (first | with_reducible rfl | with_reducible exact nlit | with_reducible apply nadd | with_reducible apply nmul | with_reducible apply nsub | with_reducible assumption | omega)) (by omega) (by first | decide | omega) ?_
    refine V_iconst (v := 1) dX7_doStep_132 (by decide) ?_
    refine V_zret dX7_doStep_133 rfl (by first | rfl | exact bI_nar) rfl rfl ?_
    exact Rw_i (bI_t (Or.inl (Or.inr (Or.inr (Or.inr (Or.inr rfl)))))).symm (by simp only [mset_s, mset_ss, mset_n, pk_us, pk_un, uus, ne_eq, Nat.reduceEqDiff, Nat.reduceAdd, not_false_eq_true, not_true_eq_false]; rfl)
  · have hv : ¬ isV v := by rintro (z | z | z | z | z) <;> contradiction
    refine V_tOut (tg := 134) dX7_doStep_28 (nv_out hv) rfl ?_
    refine V_aload_n dX7_doStep_134 rfl ?_
    refine V_bget dX7_doStep_135 fX7_7 (by decide) rfl (by (try simp only [mset_s, mset_n, pk_us, pk_un, ne_eq, Nat.reduceEqDiff, Nat.reduceAdd, not_false_eq_true, not_true_eq_false]) <;> rfl) ?_
    refine V_bipush (v := 35) dX7_doStep_138 (by decide) ?_
    refine V_dup2 dX7_doStep_140 rfl rfl ?_
    refine V_biald dX7_doStep_141 (by decide) rfl (by repeat (first | with_reducible rfl | with_reducible exact nlit | with_reducible apply nadd | with_reducible apply nmul | with_reducible apply nsub | with_reducible assumption | omega)) (by omega) (by first | decide | omega) (by (try simp only [mset_s, mset_n, pk_us, pk_un, ne_eq, Nat.reduceEqDiff, Nat.reduceAdd, not_false_eq_true, not_true_eq_false]) <;> rfl) ?_
    refine V_iload dX7_doStep_142 rfl ?_
    refine V_iload_n dX7_doStep_144 rfl ?_
    have hC : ∀ w : Int32, w = (if C 106 hd ≤ nI m then 0 else 1) → mset (mset C 106 (upd (C 106) 34 (C 106 34 + 1))) 106 (upd (upd (C 106) 34 (C 106 34 + 1)) 35 (C 106 35 + w)) = mset C 106 (zStep (C 106) hd v m) := by
      intro w hw
      rw [mset_ss, hw]
      unfold zStep
      rw [if_neg v0, if_neg v1, if_neg v2, if_neg v3, if_neg v4]
    refine V_icmp_le dX7_doStep_145 (fun c145 => ?_) (fun c145 => ?_)
    · refine V_iconst (v := 0) dX7_doStep_152 (by decide) ?_
      refine V_iadd dX7_doStep_153 ?_
      refine V_biast dX7_doStep_154 (by decide) (fun _ => rfl) (by repeat (first | with_reducible rfl | with_reducible exact nlit | with_reducible apply nadd | with_reducible apply nmul | with_reducible apply nsub | with_reducible assumption | omega)) (by omega) (by first | decide | omega) ?_
      refine V_iload dX7_doStep_155 rfl ?_
      refine V_iload_n dX7_doStep_157 rfl ?_
      refine V_icmp_gt dX7_doStep_158 (fun z => absurd z (fun z => (by rw [i_lt] at z; rw [i_le] at c145; omega))) (fun _ => ?_)
      refine V_iconst (v := 1) dX7_doStep_161 (by decide) ?_
      refine V_goto dX7_doStep_162 ?_
      refine V_zret dX7_doStep_166 rfl (by first | rfl | exact bI_nar) rfl rfl ?_
      refine Rw_i (bI_t (Or.inr c145)).symm ?_
      simp only [mset_s]
      exact hC 0 (by rw [if_pos c145])
    · refine V_iconst (v := 1) dX7_doStep_148 (by decide) ?_
      refine V_goto dX7_doStep_149 ?_
      refine V_iadd dX7_doStep_153 ?_
      refine V_biast dX7_doStep_154 (by decide) (fun _ => rfl) (by repeat (first | with_reducible rfl | with_reducible exact nlit | with_reducible apply nadd | with_reducible apply nmul | with_reducible apply nsub | with_reducible assumption | omega)) (by omega) (by first | decide | omega) ?_
      refine V_iload dX7_doStep_155 rfl ?_
      refine V_iload_n dX7_doStep_157 rfl ?_
      refine V_icmp_gt dX7_doStep_158 (fun _ => ?_) (fun z => absurd (by rw [i_lt]; rw [i_le] at c145; omega) z)
      refine V_iconst (v := 0) dX7_doStep_165 (by decide) ?_
      refine V_zret dX7_doStep_166 rfl (by first | rfl | exact bI_nar) rfl rfl ?_
      refine Rw_i (bI_f (fun z => z.elim hv c145)).symm ?_
      simp only [mset_s]
      exact hC 1 (by rw [if_neg c145])
end MODEL
