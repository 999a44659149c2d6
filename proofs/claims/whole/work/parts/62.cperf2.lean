/-! TryLoops: perform, where the items are done. -/
/-- what the items done since C1 have made of it -/
def exP (C1 : CT) (X : XS) (Cf : CT) : Prop := (∀ i, i ≠ 1 → i ≠ 2 → i ≠ 3 → i ≠ 101 → Cf i = C1 i) ∧ Cf 3 = X.1 ∧ Cf 2 0 = nI X.2.1 ∧ Cf 1 0 = C1 1 0 ∧ Cf 1 1 = C1 1 1 + X.2.2.1 ∧ Cf 1 2 = C1 1 2 + X.2.2.2.1 ∧ Cf 1 3 = C1 1 3 + X.2.2.2.2.1 ∧ Cf 1 4 = X.2.2.2.2.2
theorem exP_0 {C1 : CT} {hd : Nat} (h : C1 2 0 = nI hd) : exP C1 (C1 3, hd, 0, 0, 0, C1 1 4) C1 :=
  ⟨fun _ _ _ _ _ => rfl, rfl, h, rfl, (i_add0 _).symm, (i_add0 _).symm, (i_add0 _).symm, rfl⟩
theorem exP_ob {C1 Cf : CT} {X : XS} {v : Int32} {m : Nat} (h : exP C1 X Cf) : exP C1 ((rowStep X.1 X.2.1 v m).1, (rowStep X.1 X.2.1 v m).2, X.2.2.1 + 1, X.2.2.2.1 + (if pStep X.1 X.2.1 v m then 0 else 1), X.2.2.2.2.1, X.2.2.2.2.2) (obC Cf X.2.1 v m) := by
  obtain ⟨h0, h1, h2, h3, h4, h5, h6, h7⟩ := h
  refine ⟨fun i a1 a2 a3 a4 => ?_, ?_, ?_, ?_, ?_, ?_, ?_, ?_⟩
  · rw [obC_n a1 a2 a3]; exact h0 i a1 a2 a3 a4
  · rw [obC_3, h1]
  · rw [obC_2, pk_us, h1]
  · rw [obC_1]; exact h3
  · unfold obC
    rw [mset_s, pk_un (by decide), pk_us, h4, Int32.add_assoc]
  · unfold obC
    rw [mset_s, pk_us, h1, h5, Int32.add_assoc]
  · unfold obC
    rw [mset_s, pk_un (by decide), pk_un (by decide)]; exact h6
  · unfold obC
    rw [mset_s, pk_un (by decide), pk_un (by decide)]; exact h7
theorem exP_pl {C1 Cf : CT} {X : XS} {P : PS × Int32} (h : exP C1 X Cf) : exP C1 (P.1.1, P.1.2.1, X.2.2.1 + P.1.2.2.1, X.2.2.2.1 + f2 P.2, X.2.2.2.2.1 + 1, P.2) (plC Cf P) := by
  obtain ⟨h0, h1, h2, h3, h4, h5, h6, h7⟩ := h
  unfold plC
  refine ⟨fun i a1 a2 a3 a4 => ?_, ?_, ?_, ?_, ?_, ?_, ?_, ?_⟩
  · rw [mset_n a1, plR_n a2 a3 a4]; exact h0 i a1 a2 a3 a4
  · rw [mset_n (by decide)]; exact plR_q1 (q := 2) (by decide)
  · rw [mset_n (by decide), plR_q (by decide), pk_us]
  · rw [mset_s, pk_un (by decide), pk_un (by decide), pk_un (by decide), pk_un (by decide)]; exact h3
  · rw [mset_s, pk_un (by decide), pk_un (by decide), pk_un (by decide), pk_us, h4, Int32.add_assoc]
  · rw [mset_s, pk_un (by decide), pk_un (by decide), pk_us, h5, Int32.add_assoc]
  · rw [mset_s, pk_un (by decide), pk_us, h6, Int32.add_assoc]
  · rw [mset_s, pk_us]
theorem exL_at {X : XS} {its : List (Nat × List TS)} {i : Nat} (h : i < its.length) : exL X (its.drop i) = exL (exI X (itG its i)) (its.drop (i + 1)) := by
  have e : itG its i = its[i] := by unfold itG; simp [List.getD, h]
  rw [List.drop_eq_getElem_cons h, e]
  rfl
theorem itG_mem {its : List (Nat × List TS)} {i : Nat} (h : i < its.length) : itG its i ∈ its := by
  have e : itG its i = its[i] := by unfold itG; simp [List.getD, h]
  rw [e]
  exact List.getElem_mem h
def Rpe (G : GT) (a : Nat) (C : CT) (n : Nat) (XF : XS) : Option Value → Hp → Prop := fun r h' => ∃ W C1 Cf, r = some (.int XF.2.2.1) ∧ h' = B G a Cf ∧ Txo C W ∧ Pu W n C1 ∧ exP C1 XF Cf
section CLS
variable {G : GT} {l : Launch} {sz a : Nat} {C : CT}
set_option maxHeartbeats 4000000 in
theorem tX6_perform {n q st hd : Nat} {its : List (Nat × List TS)} (hres : pTxt (chC C n) n 60 0 [] = (some its, q)) (ho : C 1 0 = 0) (hch : chOK C) (hn : C 93 0 = nI n) (hn60 : n ≤ 60) (h0 : C 2 0 = nI hd) (hhd : hd < 30) (hi : HiK C) (hst : st ≤ 4) (h16 : C 16 0 = nI st) : Ct G l yX6_perform cX6_perform 4 (some .int) 8 0 0 sz [.ref a] (B G a C) (Rpe G a C st (exL (C 3, hd, 0, 0, 0, C 1 4) its)) := by
  have ct := tX5_read (G := G) (l := l) (sz := sz) (a := a) (C := C) (n := n) hres.symm hch hn hn60
  have oks : ∀ i ∈ its, itOK i := by
    obtain ⟨l2, e1, e2⟩ := pTxt_ok (ch := chC C n) chF_0 hn60 60 0 [] its (by omega) (by rw [hres])
    rw [List.nil_append] at e1
    rw [e1]
    exact e2
  obtain ⟨XF, hXF⟩ : ∃ XF, XF = exL (C 3, hd, 0, 0, 0, C 1 4) its := ⟨_, rfl⟩
  rw [← hXF]
  refine Ct.of (own := RX6) (mn := "perform") (L0 := [some (.ref (a + 0)), none, none, none]) (by decide +kernel) rfl rfl rfl (Nat.le_of_ble_eq_true rfl) rfl ?_
  refine V_aload_n dX6_perform_0 rfl ?_
  refine V_bget dX6_perform_1 fX6_29 (by decide) rfl (by (try simp only [mset_s, mset_n, pk_us, pk_un, ne_eq, Nat.reduceEqDiff, Nat.reduceAdd, not_false_eq_true, not_true_eq_false]) <;> rfl) ?_
  refine V_callV dX6_perform_4 kX6_148 ykX5_read (B_at (by decide) rfl) rfl ct rfl (Nat.le_of_ble_eq_true rfl) ⟨by decide, by decide, by decide, by decide⟩ ?_
  intro r h' hq
  obtain ⟨W, rfl, rfl, w0, w1, w2, w3⟩ := hq
  obtain ⟨w4, w5, w6⟩ := w3 its rfl
  have tx : Txo C W := ⟨w0, w2⟩
  show V G l RX6 "perform" cX6_perform 4 (some .int) (rmd 8 0 0) E0 (Qm G (Rpe G a C st XF) sz 0 0) sz 0 0 7 [some (.ref (a + 0)), none, none, none] [.int 1] (B G a W)
  refine V_if_ne dX6_perform_7 (fun _ => ?_) (fun z => absurd z ((by decide)))
  refine V_aload_n dX6_perform_21 rfl ?_
  refine V_bget dX6_perform_22 fX6_12 (by decide) rfl (by (try simp only [mset_s, mset_n, pk_us, pk_un, ne_eq, Nat.reduceEqDiff, Nat.reduceAdd, not_false_eq_true, not_true_eq_false]) <;> rfl) ?_
  refine V_bget dX6_perform_25 fX6_59 (by decide) rfl (by (try simp only [mset_s, mset_n, pk_us, pk_un, ne_eq, Nat.reduceEqDiff, Nat.reduceAdd, not_false_eq_true, not_true_eq_false]) <;> rfl) ?_
  rw [w2 1 (by omega), ho]
  refine V_if_eq dX6_perform_28 (fun _ => ?_) (fun z => absurd rfl z)
  refine V_aload_n dX6_perform_34 rfl ?_
  refine V_bget dX6_perform_35 fX6_19 (by decide) rfl (by (try simp only [mset_s, mset_n, pk_us, pk_un, ne_eq, Nat.reduceEqDiff, Nat.reduceAdd, not_false_eq_true, not_true_eq_false]) <;> rfl) ?_
  refine V_aload_n dX6_perform_38 rfl ?_
  refine V_bget dX6_perform_39 fX6_12 (by decide) rfl (by (try simp only [mset_s, mset_n, pk_us, pk_un, ne_eq, Nat.reduceEqDiff, Nat.reduceAdd, not_false_eq_true, not_true_eq_false]) <;> rfl) ?_
  refine V_callV dX6_perform_42 kX6_67 ykX0_push (B_at (by decide) rfl) rfl (tX0_push (n := st) (HiK_cg hi (w2 17 (by omega))) (by rw [w2 16 (by omega)]; exact h16) hst (by rw [w2 1 (by omega)]; exact Or.inl ho)) rfl (Nat.le_of_ble_eq_true rfl) ⟨by decide, by decide, by decide, by decide⟩ ?_
  intro r h' hq
  obtain ⟨C1, rfl, rfl, hP⟩ := hq
  have hP1 := hP.1
  have c : ∀ i, i < 16 → C1 i = C i := fun i h => by rw [hP1 i (Or.inl h), w2 i (by omega)]
  have c2 : ∀ i, 78 ≤ i → C1 i = W i := fun i h => hP1 i (Or.inr h)
  have e0 : exP C1 (C 3, hd, 0, 0, 0, C 1 4) C1 := by
    have := exP_0 (C1 := C1) (hd := hd) (by rw [c 2 (by decide)]; exact h0)
    rw [c 3 (by decide), c 1 (by decide)] at this
    exact this
  have key : ∀ (m i : Nat) (X : XS) (Cf : CT), i + m = its.length → XF = exL X (its.drop i) → X.2.1 < 30 → exP C1 X Cf → V G l RX6 "perform" cX6_perform 4 (some .int) (rmd 8 0 0) E0 (Qm G (Rpe G a C st XF) sz 0 0) sz 0 0 57 [some (.ref (a + 0)), some (.ref (a + 95)), some (.int X.2.2.1), some (.int (nI i))] [] (B G a Cf) := by
    intro m
    induction m with
    | zero =>
      intro i X Cf hm hX h30 he
      obtain rfl : i = its.length := by omega
      rw [List.drop_length] at hX
      have hX' : XF = X := hX
      refine V_iload_n dX6_perform_57 rfl ?_
      refine V_aload_n dX6_perform_58 rfl ?_
      refine V_bget dX6_perform_59 fX6_78 (by decide) rfl (by (try simp only [mset_s, mset_n, pk_us, pk_un, ne_eq, Nat.reduceEqDiff, Nat.reduceAdd, not_false_eq_true, not_true_eq_false]) <;> rfl) ?_
      rw [he.1 95 (by decide) (by decide) (by decide) (by decide), c2 95 (by decide), w4]
      refine V_icmp_ge dX6_perform_62 (fun _ => ?_) (fun z => absurd ((cle (by repeat (first | with_reducible rfl | with_reducible exact nlit | with_reducible apply nadd | with_reducible apply nmul | with_reducible apply nsub | with_reducible assumption | omega)) (by repeat (first | with_reducible rfl | with_reducible exact nlit | with_reducible apply nadd | with_reducible apply nmul | with_reducible apply nsub | with_reducible assumption | omega)) (by omega) (by omega)).mpr (by omega)) z)
      refine V_iload_n dX6_perform_121 rfl ?_
      refine V_iret dX6_perform_122 rfl rfl rfl ?_
      exact ⟨W, C1, Cf, by rw [hX'], rfl, tx, hP, by rw [hX']; exact he⟩
    | succ m ih =>
      intro i X Cf hm hX h30 he
      have hil : i < its.length := by omega
      rw [exL_at hil] at hX
      obtain ⟨i1, i2, i3, i4⟩ := w6 i hil
      have iok := oks _ (itG_mem hil)
      have hexi := exI_hd (i := itG its i) h30 iok
      have hT99 : (itG its i).1 ≤ 99 := by rcases iok.1 with z | z <;> omega
      have hl1 : 1 ≤ (itG its i).2.length := by rcases iok.1 with z | z <;> omega
      have r : ∀ j, 95 ≤ j → j ≤ 100 → Cf j = W j := fun j a1 a2 => by rw [he.1 j (by omega) (by omega) (by omega) (by omega), c2 j (by omega)]
      generalize itG its i = it at hX i1 i2 i3 i4 iok hexi hT99 hl1
      have next : ∀ (C2 : CT), exP C1 (exI X it) C2 → V G l RX6 "perform" cX6_perform 4 (some .int) (rmd 8 0 0) E0 (Qm G (Rpe G a C st XF) sz 0 0) sz 0 0 115 [some (.ref (a + 0)), some (.ref (a + 95)), some (.int (exI X it).2.2.1), some (.int (nI i))] [] (B G a C2) := by
        intro C2 he2
        refine V_iinc dX6_perform_115 rfl (ninc _) (by decide) (by dsimp only [List.set] <;> rfl) ?_
        refine V_goto dX6_perform_118 ?_
        exact ih (i + 1) (exI X it) C2 (by omega) hX hexi he2
      refine V_iload_n dX6_perform_57 rfl ?_
      refine V_aload_n dX6_perform_58 rfl ?_
      refine V_bget dX6_perform_59 fX6_78 (by decide) rfl (by (try simp only [mset_s, mset_n, pk_us, pk_un, ne_eq, Nat.reduceEqDiff, Nat.reduceAdd, not_false_eq_true, not_true_eq_false]) <;> rfl) ?_
      rw [r 95 (by decide) (by decide), w4]
      refine V_icmp_ge dX6_perform_62 (fun z => absurd z (fun z => absurd ((cle (by repeat (first | with_reducible rfl | with_reducible exact nlit | with_reducible apply nadd | with_reducible apply nmul | with_reducible apply nsub | with_reducible assumption | omega)) (by repeat (first | with_reducible rfl | with_reducible exact nlit | with_reducible apply nadd | with_reducible apply nmul | with_reducible apply nsub | with_reducible assumption | omega)) (by omega) (by omega)).mp z) (by omega))) (fun _ => ?_)
      refine V_aload_n dX6_perform_65 rfl ?_
      refine V_iload_n dX6_perform_66 rfl ?_
      refine V_callVw dX6_perform_67 kX6_131 ykX3_turnsOf (by decide) rfl rfl (tX3_turnsOf (q := 95) (W := 20) (N := 20) shkT (by omega)) rfl (Nat.le_of_ble_eq_true rfl) ⟨by decide, by decide, by decide, by decide⟩ ?_
      rw [show Cf (95 + 5) i = nI it.1 from by rw [← i1]; exact congrFun (r 100 (by decide) (by decide)) i]
      have hszz : Cf (95 + 4) i = nI it.2.length := by rw [← i2]; exact congrFun (r 99 (by decide) (by decide)) i
      have hv : ∀ k, Cf (95 + 1) (i * 20 + k) = W 96 (i * 20 + k) := fun k => congrFun (r 96 (by decide) (by decide)) _
      have hnn : ∀ k, Cf (95 + 2) (i * 20 + k) = W 97 (i * 20 + k) := fun k => congrFun (r 97 (by decide) (by decide)) _
      have hss : ∀ k, Cf (95 + 3) (i * 20 + k) = W 98 (i * 20 + k) := fun k => congrFun (r 98 (by decide) (by decide)) _
      by_cases hi0 : it.1 = 0
      · have h00 := i4 0 (by omega)
        have hts := ts_get iok.2 (k := 0) (by omega)
        have hgm := gM_9 (v := (it.2.getD 0 (0, 0, 0)).1)
        have hm34 : bvF it.2 0 = 3 ∨ bvF it.2 0 = 4 → (it.2.getD 0 (0, 0, 0)).2.1 < 30 := by
          intro hv
          have hv' : (it.2.getD 0 (0, 0, 0)).1 = 3 ∨ (it.2.getD 0 (0, 0, 0)).1 = 4 := hv.elim (fun z => Or.inl ((ceq rfl nlit (by have := hts.1; omega) (by omega)).mp z)) (fun z => Or.inr ((ceq rfl nlit (by have := hts.1; omega) (by omega)).mp z))
          have := hts.2
          unfold gM at this
          rw [if_pos (Or.inr hv')] at this
          omega
        refine V_if_le dX6_perform_70 (fun _ => ?_) (fun z => absurd ((cle (by repeat (first | with_reducible rfl | with_reducible exact nlit | with_reducible apply nadd | with_reducible apply nmul | with_reducible apply nsub | with_reducible assumption | omega)) (by repeat (first | with_reducible rfl | with_reducible exact nlit | with_reducible apply nadd | with_reducible apply nmul | with_reducible apply nsub | with_reducible assumption | omega)) (by omega) (by omega)).mpr (by omega)) z)
        refine V_aload_n dX6_perform_92 rfl ?_
        refine V_bget dX6_perform_93 fX6_12 (by decide) rfl (by (try simp only [mset_s, mset_n, pk_us, pk_un, ne_eq, Nat.reduceEqDiff, Nat.reduceAdd, not_false_eq_true, not_true_eq_false]) <;> rfl) ?_
        refine V_aload_n dX6_perform_96 rfl ?_
        refine V_iload_n dX6_perform_97 rfl ?_
        refine V_iconst (v := 0) dX6_perform_98 (by decide) ?_
        refine V_callVw dX6_perform_99 kX6_157 ykX3_verbAt (by decide) rfl rfl (tX3_verbAt (q := 95) (W := 20) (N := 20) (k := 0) shkT (by omega) (by decide)) rfl (Nat.le_of_ble_eq_true rfl) ⟨by decide, by decide, by decide, by decide⟩ ?_
        rw [hv 0, h00.1]
        refine V_aload_n dX6_perform_102 rfl ?_
        refine V_iload_n dX6_perform_103 rfl ?_
        refine V_iconst (v := 0) dX6_perform_104 (by decide) ?_
        refine V_callVw dX6_perform_105 kX6_161 ykX3_numberAt (by decide) rfl rfl (tX3_numberAt (q := 95) (W := 20) (N := 20) (k := 0) shkT (by omega) (by decide)) rfl (Nat.le_of_ble_eq_true rfl) ⟨by decide, by decide, by decide, by decide⟩ ?_
        rw [hnn 0, h00.2.1]
        have ob := tX4_obey (G := G) (l := l) (sz := sz + 0) (a := a) (C := Cf) (hd := X.2.1) (m := (it.2.getD 0 (0, 0, 0)).2.1) (v := bvF it.2 0) he.2.2.1 h30 hm34 (by have := hts.2; omega)
        refine V_callVw dX6_perform_108 kX6_71 ykX4_obey (by decide) rfl rfl ob rfl (Nat.le_of_ble_eq_true rfl) ⟨by decide, by decide, by decide, by decide⟩ ?_
        refine V_pop dX6_perform_111 rfl ?_
        refine V_iinc dX6_perform_112 rfl (show X.2.2.1 + Int32.ofInt 1 = X.2.2.1 + 1 from rfl) (by decide) (by dsimp only [List.set] <;> rfl) ?_
        have := next _ (by unfold exI; rw [if_pos hi0]; exact exP_ob he)
        unfold exI at this
        rw [if_pos hi0] at this
        exact this
      · have cg : plBody (shv Cf 95 20 i) (shn Cf 95 20 i) (sht Cf 95 20 i) it.2.length it.1 0 (X.1, X.2.1, 0, 0) = plI it X := plBody_congr (fun k hk => ⟨(hv k).trans (i4 k hk).1, (hnn k).trans (i4 k hk).2.1, (hss k).trans (i4 k hk).2.2⟩) _ _ _
        have ct := tX4_playLoop (G := G) (l := l) (sz := sz + 0) (a := a) (C := Cf) (p := 95) (W := 20) (N := 20) (n := i) (size := it.2.length) (T := it.1) (hd := X.2.1) (c := X.1) shkT (by decide) (by decide) he.2.1 he.2.2.1 h30 (by omega) hszz i3 (by rw [← i1]; exact congrFun (r 100 (by decide) (by decide)) i) (by omega)
        rw [cg] at ct
        refine V_if_le dX6_perform_70 (fun z => absurd z (fun z => absurd ((cle (by repeat (first | with_reducible rfl | with_reducible exact nlit | with_reducible apply nadd | with_reducible apply nmul | with_reducible apply nsub | with_reducible assumption | omega)) (by repeat (first | with_reducible rfl | with_reducible exact nlit | with_reducible apply nadd | with_reducible apply nmul | with_reducible apply nsub | with_reducible assumption | omega)) (by omega) (by omega)).mp z) (by omega))) (fun _ => ?_)
        refine V_iload_n dX6_perform_73 rfl ?_
        refine V_aload_n dX6_perform_74 rfl ?_
        refine V_bget dX6_perform_75 fX6_12 (by decide) rfl (by (try simp only [mset_s, mset_n, pk_us, pk_un, ne_eq, Nat.reduceEqDiff, Nat.reduceAdd, not_false_eq_true, not_true_eq_false]) <;> rfl) ?_
        refine V_aload_n dX6_perform_78 rfl ?_
        refine V_bget dX6_perform_79 fX6_36 (by decide) rfl (by (try simp only [mset_s, mset_n, pk_us, pk_un, ne_eq, Nat.reduceEqDiff, Nat.reduceAdd, not_false_eq_true, not_true_eq_false]) <;> rfl) ?_
        refine V_aload_n dX6_perform_82 rfl ?_
        refine V_iload_n dX6_perform_83 rfl ?_
        refine V_callVw dX6_perform_84 kX6_138 ykX4_playLoop (by decide) rfl rfl ct rfl (Nat.le_of_ble_eq_true rfl) ⟨by decide, by decide, by decide, by decide⟩ ?_
        refine V_iadd dX6_perform_87 ?_
        refine V_istore_n dX6_perform_88 (by decide) (by dsimp only [List.set] <;> rfl) ?_
        refine V_goto dX6_perform_89 ?_
        have := next _ (by unfold exI; rw [if_neg hi0]; exact exP_pl he)
        unfold exI at this
        rw [if_neg hi0] at this
        exact this
  show V G l RX6 "perform" cX6_perform 4 (some .int) (rmd 8 0 0) E0 (Qm G (Rpe G a C st XF) sz 0 0) sz 0 0 45 [some (.ref (a + 0)), none, none, none] [] (B G a C1)
  refine V_aload_n dX6_perform_45 rfl ?_
  refine V_bget dX6_perform_46 fX6_29 (by decide) rfl (by (try simp only [mset_s, mset_n, pk_us, pk_un, ne_eq, Nat.reduceEqDiff, Nat.reduceAdd, not_false_eq_true, not_true_eq_false]) <;> rfl) ?_
  refine V_bget dX6_perform_49 fX6_154 (by decide) rfl (by (try simp only [mset_s, mset_n, pk_us, pk_un, ne_eq, Nat.reduceEqDiff, Nat.reduceAdd, not_false_eq_true, not_true_eq_false]) <;> rfl) ?_
  refine V_astore_n dX6_perform_52 (by decide) (by dsimp only [List.set] <;> rfl) ?_
  refine V_iconst (v := 0) dX6_perform_53 (by decide) ?_
  refine V_istore_n dX6_perform_54 (by decide) (by dsimp only [List.set] <;> rfl) ?_
  refine V_iconst (v := 0) dX6_perform_55 (by decide) ?_
  refine V_istore_n dX6_perform_56 (by decide) (by dsimp only [List.set] <;> rfl) ?_
  exact key its.length 0 (C 3, hd, 0, 0, 0, C 1 4) C1 (by omega) hXF hhd e0
end CLS
