/-! Text: read. -/
/-- what reading the text leaves -/
def Rre (G : GT) (a : Nat) (C : CT) (r : Option (List (Nat × List TS)) × Nat) : Option Value → Hp → Prop := fun rr h' => ∃ W, rr = some (.int (bI (r.1 ≠ none))) ∧ h' = B G a W ∧ W 93 0 = C 93 0 ∧ W 93 1 = nI r.2 ∧ (∀ i, (i < 93 ∨ i = 94 ∨ 100 < i) → W i = C i) ∧ ∀ l, r.1 = some l → W 95 0 = nI l.length ∧ l.length ≤ 20 ∧ ItP W l
section CLS
variable {G : GT} {l : Launch} {sz a : Nat} {C : CT}
set_option maxHeartbeats 4000000 in
theorem tX5_read {n : Nat} {res : Option (List (Nat × List TS)) × Nat} (hres : res = pTxt (chC C n) n 60 0 []) (hch : chOK C) (hn : C 93 0 = nI n) (hn60 : n ≤ 60) : Ct G l yX5_read cX5_read 2 (some .boolean) 7 0 0 sz [.ref (a + 93)] (B G a C) (Rre G a C res) := by
  have c0 : ∀ j, n ≤ j → chC C n j = 0 := chF_0
  have bad : ∀ (W : CT) (q : Nat), res = (none, q) → W 93 0 = C 93 0 → W 93 1 = nI q → (∀ i, (i < 93 ∨ i = 94 ∨ 100 < i) → W i = C i) → Rre G a C res (some (.int 0)) (B G a W) := by
    intro W q hr w0 w1 w2
    rw [hr]
    exact ⟨W, rfl, rfl, w0, w1, w2, fun l h => by cases h⟩
  refine Ct.of (own := RX5) (mn := "read") (L0 := [some (.ref (a + 93)), none]) (by decide +kernel) rfl rfl rfl (Nat.le_of_ble_eq_true rfl) rfl ?_
  refine V_aload_n dX5_read_0 rfl ?_
  refine V_iconst (v := 0) dX5_read_1 (by decide) ?_
  refine V_bputi (i0 := 1) dX5_read_2 fX5_28 (by decide) rfl rfl rfl (Nat.le_of_ble_eq_true rfl) rfl ?_
  refine V_aload_n dX5_read_5 rfl ?_
  refine V_bget dX5_read_6 fX5_20 (by decide) rfl (by (try simp only [mset_s, mset_n, pk_us, pk_un, ne_eq, Nat.reduceEqDiff, Nat.reduceAdd, not_false_eq_true, not_true_eq_false]) <;> rfl) ?_
  refine V_callVu dX5_read_9 kX5_31 ykX3_clear (by decide) rfl rfl (tX3_clear (q := 95) (W := 20) (N := 20) shkT) rfl (Nat.le_of_ble_eq_true rfl) ⟨by decide, by decide, by decide, by decide⟩ ?_
  refine V_iconst (v := 0) dX5_read_12 (by decide) ?_
  refine V_istore_n dX5_read_13 (by decide) (by dsimp only [List.set] <;> rfl) rfl ?_
  have key : ∀ (f i q : Nat) (b : List (Nat × List TS)) (W : CT), i + f = 60 → q ≤ n → 3 * b.length ≤ q → res = pTxt (chC C n) n f q b → W 93 0 = C 93 0 → W 93 1 = nI q → (∀ i, (i < 93 ∨ i = 94 ∨ 100 < i) → W i = C i) → W 95 0 = nI b.length → ItP W b → V G l RX5 "read" cX5_read 2 (some .boolean) (rmd 7 0 0) E0 (Qm G (Rre G a C res) sz 0 0) sz 0 0 14 [some (.ref (a + 93)), some (.int (nI i))] [] (B G a W) := by
    intro f
    induction f with
    | zero =>
      intro i q b W hi hq hb hr w0 w1 w2 w3 w4
      obtain rfl : i = 60 := by omega
      refine V_iload_n dX5_read_14 rfl ?_
      refine V_bipush (v := 60) dX5_read_15 (by decide) ?_
      refine V_icmp_ge dX5_read_17 (fun _ => ?_) (fun z => absurd ((cle (by repeat (first | with_reducible rfl | with_reducible exact nlit | with_reducible apply nadd | with_reducible apply nmul | with_reducible apply nsub | with_reducible assumption | omega)) (by repeat (first | with_reducible rfl | with_reducible exact nlit | with_reducible apply nadd | with_reducible apply nmul | with_reducible apply nsub | with_reducible assumption | omega)) (by omega) (by omega)).mpr (by omega)) z)
      refine V_iconst (v := 0) dX5_read_61 (by decide) ?_
      refine V_zret dX5_read_62 rfl (by first | rfl | exact bI_nar) rfl rfl ?_
      exact bad W q hr w0 w1 w2
    | succ f ih =>
      intro i q b W hi hq hb hr w0 w1 w2 w3 w4
      have hW : chOK W := fun j => by rw [w2 94 (by omega)]; exact hch j
      have cW : chC W n = chC C n := by show chF (W 94) n = chF (C 94) n; rw [w2 94 (by omega)]
      refine V_iload_n dX5_read_14 rfl ?_
      refine V_bipush (v := 60) dX5_read_15 (by decide) ?_
      refine V_icmp_ge dX5_read_17 (fun z => absurd z (fun z => absurd ((cle (by repeat (first | with_reducible rfl | with_reducible exact nlit | with_reducible apply nadd | with_reducible apply nmul | with_reducible apply nsub | with_reducible assumption | omega)) (by repeat (first | with_reducible rfl | with_reducible exact nlit | with_reducible apply nadd | with_reducible apply nmul | with_reducible apply nsub | with_reducible assumption | omega)) (by omega) (by omega)).mp z) (by omega))) (fun _ => ?_)
      refine V_aload_n dX5_read_20 rfl ?_
      rw [pTxt] at hr
      by_cases h20 : b.length < 20
      · have it := tX5_readItem (G := G) (l := l) (sz := sz + 0) (a := a) (C := W) (n := n) (p := q) (t := b.length) (res := pItm (chC C n) q) (by rw [cW]) hW (by rw [w0]; exact hn) hn60 w1 hq w3 h20
        have h1 := pItm_ok c0 hq hn60
        generalize pItm (chC C n) q = r1 at hr it h1
        obtain ⟨y, q1⟩ := r1
        simp only at h1
        refine V_callV dX5_read_21 kX5_34 ykX5_readItem (B_at (by decide) rfl) rfl it rfl (Nat.le_of_ble_eq_true rfl) ⟨by decide, by decide, by decide, by decide⟩ ?_
        intro r h' hq2
        obtain ⟨rfl, k1, k2⟩ := hq2
        cases y with
        | none =>
          obtain ⟨b', rfl⟩ := k1 rfl
          simp only at hr
          show V G l RX5 "read" cX5_read 2 (some .boolean) (rmd 7 0 0) E0 (Qm G (Rre G a C res) sz 0 0) sz 0 0 24 [some (.ref (a + 93)), some (.int (nI i))] [.int 0] (B G a (bdC W b.length b' q1))
          refine V_if_ne dX5_read_24 (fun z => absurd z (fun z => z rfl)) (fun _ => ?_)
          refine V_iconst (v := 0) dX5_read_27 (by decide) ?_
          refine V_zret dX5_read_28 rfl (by first | rfl | exact bI_nar) rfl rfl ?_
          exact bad _ q1 hr (by rw [bdC_0]; exact w0) bdC_1 (fun i hi => by rw [bdC_n (by omega)]; exact w2 i hi)
        | some y =>
          obtain rfl := k2 y rfl
          obtain ⟨h11, h12, h13⟩ := h1
          obtain ⟨h14, h15⟩ := h13 y rfl
          simp only at hr h11 h12 h14
          have hy20 : y.2.length ≤ 20 := by rcases h15.1 with z | z <;> omega
          have i4 := ItP_ki (q := q1) w4 hy20
          have x3 : kiC W b.length y q1 95 0 = nI (b ++ [y]).length := by rw [kiC_95]; simp
          have x2 : ∀ i, (i < 93 ∨ i = 94 ∨ 100 < i) → kiC W b.length y q1 i = C i := fun i hi => by rw [kiC_n hi]; exact w2 i hi
          have x0 : kiC W b.length y q1 93 0 = C 93 0 := by rw [kiC_93.1]; exact w0
          have x1 : kiC W b.length y q1 93 1 = nI q1 := kiC_93.2
          show V G l RX5 "read" cX5_read 2 (some .boolean) (rmd 7 0 0) E0 (Qm G (Rre G a C res) sz 0 0) sz 0 0 24 [some (.ref (a + 93)), some (.int (nI i))] [.int 1] (B G a (kiC W b.length y q1))
          generalize kiC W b.length y q1 = W1 at i4 x3 x2 x0 x1
          have hW1 : chOK W1 := fun j => by rw [x2 94 (by omega)]; exact hch j
          have cW1 : chC W1 n = chC C n := by show chF (W1 94) n = chF (C 94) n; rw [x2 94 (by omega)]
          refine V_if_ne dX5_read_24 (fun _ => ?_) (fun z => absurd z ((by decide)))
          refine V_aload_n dX5_read_29 rfl ?_
          refine V_bipush (v := 59) dX5_read_30 (by decide) ?_
          refine V_callVw dX5_read_32 kX5_38 ykX5_take (by decide) rfl rfl (tX5_take (n := n) (p := q1) (c := 59) hW1 (by rw [x0]; exact hn) hn60 x1 (by omega)) rfl (Nat.le_of_ble_eq_true rfl) ⟨by decide, by decide, by decide, by decide⟩ ?_
          rw [cW1]
          by_cases h59 : chC C n q1 = 59
          · have hq1 := vB_none c0 (show chC C n q1 ≠ 0 by rw [h59]; decide)
            rw [if_pos h59] at hr
            rw [if_pos h59]
            refine V_if_ne dX5_read_35 (fun _ => ?_) (fun z => absurd z ((bI_ne0.mpr h59)))
            refine V_iinc dX5_read_55 rfl (ninc _) (by decide) (by dsimp only [List.set] <;> rfl) ?_
            refine V_goto dX5_read_58 ?_
            exact ih (i + 1) (q1 + 1) (b ++ [y]) _ (by omega) (by omega) (by simp; omega) hr (by rw [aP_0]; exact x0) aP_1 (fun i hi => by rw [aP_n (by omega)]; exact x2 i hi) (by rw [aP_n (by decide)]; exact x3) (ItP_cg i4 (fun i _ _ => aP_n (by omega)))
          · rw [if_neg h59] at hr
            rw [if_neg h59]
            refine V_if_ne dX5_read_35 (fun z => absurd z (fun z => z (bI_f h59))) (fun _ => ?_)
            refine V_aload_n dX5_read_38 rfl ?_
            refine V_bget dX5_read_39 fX5_28 (by decide) rfl (by (try simp only [mset_s, mset_n, pk_us, pk_un, ne_eq, Nat.reduceEqDiff, Nat.reduceAdd, not_false_eq_true, not_true_eq_false]) <;> rfl) ?_
            rw [x1]
            refine V_aload_n dX5_read_42 rfl ?_
            refine V_bget dX5_read_43 fX5_24 (by decide) rfl (by (try simp only [mset_s, mset_n, pk_us, pk_un, ne_eq, Nat.reduceEqDiff, Nat.reduceAdd, not_false_eq_true, not_true_eq_false]) <;> rfl) ?_
            rw [x0, hn]
            by_cases hqn : q1 = n
            · rw [if_pos hqn] at hr
              refine V_icmp_ne dX5_read_46 (fun z => absurd z (fun z => z ((ceq (by repeat (first | with_reducible rfl | with_reducible exact nlit | with_reducible apply nadd | with_reducible apply nmul | with_reducible apply nsub | with_reducible assumption | omega)) (by repeat (first | with_reducible rfl | with_reducible exact nlit | with_reducible apply nadd | with_reducible apply nmul | with_reducible apply nsub | with_reducible assumption | omega)) (by omega) (by omega)).mpr (by omega)))) (fun _ => ?_)
              refine V_iconst (v := 1) dX5_read_49 (by decide) ?_
              refine V_goto dX5_read_50 ?_
              refine V_zret dX5_read_54 rfl rfl rfl rfl ?_
              rw [hr]
              exact ⟨W1, rfl, rfl, x0, x1, x2, fun l h => by cases h; exact ⟨x3, by simp; omega, i4⟩⟩
            · rw [if_neg hqn] at hr
              refine V_icmp_ne dX5_read_46 (fun _ => ?_) (fun z => absurd z ((fun z => absurd ((ceq (by repeat (first | with_reducible rfl | with_reducible exact nlit | with_reducible apply nadd | with_reducible apply nmul | with_reducible apply nsub | with_reducible assumption | omega)) (by repeat (first | with_reducible rfl | with_reducible exact nlit | with_reducible apply nadd | with_reducible apply nmul | with_reducible apply nsub | with_reducible assumption | omega)) (by omega) (by omega)).mp z) (by omega))))
              refine V_iconst (v := 0) dX5_read_53 (by decide) ?_
              refine V_zret dX5_read_54 rfl rfl rfl rfl ?_
              exact bad W1 q1 hr x0 x1 x2
      · have hqn : q = n := by omega
        have hb20 : b.length = 20 := by omega
        have e0 : chC C n q = 0 := c0 q (by omega)
        have ep : pItm (chC C n) q = (none, q) := by
          unfold pItm pStp
          rw [e0, if_neg (show ¬ isD 0 by decide)]
          rfl
        rw [ep] at hr
        have ie := tX5_readItem_e (G := G) (l := l) (sz := sz + 0) (a := a) (C := W) (n := n) (p := q) hW (by rw [w0]; exact hn) hn60 w1 hqn (by rw [w3, hb20])
        refine V_callVw dX5_read_21 kX5_34 ykX5_readItem (by decide) rfl rfl ie rfl (Nat.le_of_ble_eq_true rfl) ⟨by decide, by decide, by decide, by decide⟩ ?_
        refine V_if_ne dX5_read_24 (fun z => absurd z (by decide)) (fun _ => ?_)
        refine V_iconst (v := 0) dX5_read_27 (by decide) ?_
        refine V_zret dX5_read_28 rfl (by first | rfl | exact bI_nar) rfl rfl ?_
        exact bad W q hr w0 w1 w2
  have k0 := key 60 0 0 [] (mset (mset C 93 (upd (C 93) 1 0)) 95 (upd (C 95) 0 0)) (by omega) (by omega) (by simp) hres (by rw [mset_n (by decide), mset_s]; rfl) (by rw [mset_n (by decide), mset_s, pk_us]; rfl) (fun i hi => by rw [mset_n (by omega), mset_n (by omega)]) (by rw [mset_s]; rfl) (fun i hi => absurd hi (by simp))
  exact k0
end CLS
