/-! TryLoops: perform, where nothing is performed. -/
/-- only the text's place and its items changed -/
def Txo (C W : CT) : Prop := W 93 0 = C 93 0 ∧ ∀ i, (i < 93 ∨ i = 94 ∨ 100 < i) → W i = C i
section CLS
variable {G : GT} {l : Launch} {sz a : Nat} {C : CT}
def Rpf (G : GT) (a : Nat) (v : Int32) (C : CT) : Option Value → Hp → Prop := fun r h' => ∃ W, r = some (.int v) ∧ h' = B G a W ∧ Txo C W
theorem tX6_perform_f {n q : Nat} (hres : pTxt (chC C n) n 60 0 [] = (none, q)) (hch : chOK C) (hn : C 93 0 = nI n) (hn60 : n ≤ 60) : Ct G l yX6_perform cX6_perform 4 (some .int) 8 0 0 sz [.ref a] (B G a C) (Rpf G a (-100 - nI q) C) := by
  have ct := tX5_read (G := G) (l := l) (sz := sz) (a := a) (C := C) (n := n) hres.symm hch hn hn60
  refine Ct.of (own := RX6) (mn := "perform") (L0 := [some (.ref (a + 0)), none, none, none]) (by decide +kernel) rfl rfl rfl (Nat.le_of_ble_eq_true rfl) rfl ?_
  refine V_aload_n dX6_perform_0 rfl ?_
  refine V_bget dX6_perform_1 fX6_29 (by decide) rfl (by (try simp only [mset_s, mset_n, pk_us, pk_un, ne_eq, Nat.reduceEqDiff, Nat.reduceAdd, not_false_eq_true, not_true_eq_false]) <;> rfl) ?_
  refine V_callV dX6_perform_4 kX6_148 ykX5_read (B_at (by decide) rfl) rfl ct rfl (Nat.le_of_ble_eq_true rfl) ⟨by decide, by decide, by decide, by decide⟩ ?_
  intro r h' hq
  obtain ⟨W, rfl, rfl, w0, w1, w2, -⟩ := hq
  show V G l RX6 "perform" cX6_perform 4 (some .int) (rmd 8 0 0) E0 (Qm G (Rpf G a (-100 - nI q) C) sz 0 0) sz 0 0 7 [some (.ref (a + 0)), none, none, none] [.int 0] (B G a W)
  refine V_if_ne dX6_perform_7 (fun z => absurd z (fun z => z rfl)) (fun _ => ?_)
  refine V_bipush (v := (-100)) dX6_perform_10 (by decide) ?_
  refine V_aload_n dX6_perform_12 rfl ?_
  refine V_bget dX6_perform_13 fX6_29 (by decide) rfl (by (try simp only [mset_s, mset_n, pk_us, pk_un, ne_eq, Nat.reduceEqDiff, Nat.reduceAdd, not_false_eq_true, not_true_eq_false]) <;> rfl) ?_
  refine V_bget dX6_perform_16 fX6_151 (by decide) rfl (by (try simp only [mset_s, mset_n, pk_us, pk_un, ne_eq, Nat.reduceEqDiff, Nat.reduceAdd, not_false_eq_true, not_true_eq_false]) <;> rfl) ?_
  rw [w1]
  refine V_isub dX6_perform_19 ?_
  refine V_iret dX6_perform_20 rfl rfl rfl ?_
  exact ⟨W, rfl, rfl, w0, w2⟩
theorem tX6_perform_n {n q : Nat} {its : List (Nat × List TS)} (hres : pTxt (chC C n) n 60 0 [] = (some its, q)) (ho : C 1 0 = 1) (hch : chOK C) (hn : C 93 0 = nI n) (hn60 : n ≤ 60) : Ct G l yX6_perform cX6_perform 4 (some .int) 8 0 0 sz [.ref a] (B G a C) (Rpf G a (-4) C) := by
  have ct := tX5_read (G := G) (l := l) (sz := sz) (a := a) (C := C) (n := n) hres.symm hch hn hn60
  refine Ct.of (own := RX6) (mn := "perform") (L0 := [some (.ref (a + 0)), none, none, none]) (by decide +kernel) rfl rfl rfl (Nat.le_of_ble_eq_true rfl) rfl ?_
  refine V_aload_n dX6_perform_0 rfl ?_
  refine V_bget dX6_perform_1 fX6_29 (by decide) rfl (by (try simp only [mset_s, mset_n, pk_us, pk_un, ne_eq, Nat.reduceEqDiff, Nat.reduceAdd, not_false_eq_true, not_true_eq_false]) <;> rfl) ?_
  refine V_callV dX6_perform_4 kX6_148 ykX5_read (B_at (by decide) rfl) rfl ct rfl (Nat.le_of_ble_eq_true rfl) ⟨by decide, by decide, by decide, by decide⟩ ?_
  intro r h' hq
  obtain ⟨W, rfl, rfl, w0, w1, w2, -⟩ := hq
  show V G l RX6 "perform" cX6_perform 4 (some .int) (rmd 8 0 0) E0 (Qm G (Rpf G a (-4) C) sz 0 0) sz 0 0 7 [some (.ref (a + 0)), none, none, none] [.int 1] (B G a W)
  refine V_if_ne dX6_perform_7 (fun _ => ?_) (fun z => absurd z ((by decide)))
  refine V_aload_n dX6_perform_21 rfl ?_
  refine V_bget dX6_perform_22 fX6_12 (by decide) rfl (by (try simp only [mset_s, mset_n, pk_us, pk_un, ne_eq, Nat.reduceEqDiff, Nat.reduceAdd, not_false_eq_true, not_true_eq_false]) <;> rfl) ?_
  refine V_bget dX6_perform_25 fX6_59 (by decide) rfl (by (try simp only [mset_s, mset_n, pk_us, pk_un, ne_eq, Nat.reduceEqDiff, Nat.reduceAdd, not_false_eq_true, not_true_eq_false]) <;> rfl) ?_
  rw [w2 1 (by omega), ho]
  refine V_if_eq dX6_perform_28 (fun z => absurd z (by decide)) (fun _ => ?_)
  refine V_bipush (v := (-4)) dX6_perform_31 (by decide) ?_
  refine V_iret dX6_perform_33 rfl rfl rfl ?_
  exact ⟨W, rfl, rfl, w0, w2⟩
end CLS
