/-! TryLoopsModel: alike, cell, ofTry, ofLoop, length, total, type, clearText. -/
theorem lcsF_s {e : Nat → Nat → Bool} {p : Nat} : lcsF e (p + 1) = lcsR (lcsF e p) (e p) := rfl
def lcsD (e : Nat → Nat → Bool) (l2 : Nat) (f : Nat → Int32) (i k : Nat) : Prop := ∀ i' k', k' ≤ l2 → (i' < i ∨ (i' = i ∧ k' < k)) → f (13 * i' + k') = lcsF e i' k'
theorem lcsD_s {e : Nat → Nat → Bool} {l2 i k : Nat} {f : Nat → Int32} {v : Int32} (h : lcsD e l2 f i k) (h2 : l2 ≤ 12) (hk : k ≤ l2) (hv : v = lcsF e i k) : lcsD e l2 (upd f (13 * i + k) v) i (k + 1) := by
  intro i' k' hk' hh
  by_cases heq : i' = i ∧ k' = k
  · obtain ⟨rfl, rfl⟩ := heq
    rw [pk_us, hv]
  · rw [pk_un (by omega)]
    exact h i' k' hk' (by omega)
theorem lcsD_n {e : Nat → Nat → Bool} {l2 i : Nat} {f : Nat → Int32} (h : lcsD e l2 f i (l2 + 1)) : lcsD e l2 f (i + 1) 0 := by
  intro i' k' hk' hh
  exact h i' k' hk' (by omega)
def tM (C : CT) (tl : Nat → Nat) (tc w : Nat) : Int32 :=
  if w = 0 then C 106 30 else if w = 1 then sumF (C 106) 30 else if w = 2 then C 106 31 else if w = 3 then (if C 106 32 = 1 then C 106 (38 + 25 * tc) else -5)
  else if w < 9 then C 106 (29 + w) else if w = 9 then rowsN (lkM (C 106) tl) tc else if w = 10 then C 105 0 else C 105 2
section MODEL
variable {G : GT} {l : Launch} {sz a : Nat} {C : CT}
set_option maxHeartbeats 4000000 in
theorem tX7_alike_o {tc : Nat} (x1 x2 x3 : Int32) (h31 : C 106 31 = nI tc) (htc : tc ≤ 6) (hx : ¬ (isIx x1 tc ∧ isIx x2 tc)) : Ct G l yX7_alike cX7_alike 10 (some .int) 2 0 0 sz [.ref (a + 105), .int x1, .int x2, .int x3] (B G a C) (Rw G a (.int (-1)) C) := by
  refine Ct.of (own := RX7) (mn := "alike") (L0 := [some (.ref (a + 105)), some (.int x1), some (.int x2), some (.int x3), none, none, none, none, none, none]) (by decide +kernel) rfl rfl rfl (Nat.le_of_ble_eq_true rfl) rfl ?_
  refine V_aload_n dX7_alike_0 rfl ?_
  refine V_iload_n dX7_alike_1 rfl ?_
  refine V_callVw dX7_alike_2 kX7_67 ykX7_isTry (by decide) rfl rfl (tX7_isTry _ h31 (by omega)) rfl (Nat.le_of_ble_eq_true rfl) ⟨by decide, by decide, by decide, by decide⟩ ?_
  by_cases h1 : isIx x1 tc
  · refine V_if_eq dX7_alike_5 (fun z => absurd z (bI_ne0.mpr h1)) (fun _ => ?_)
    refine V_aload_n dX7_alike_8 rfl ?_
    refine V_iload_n dX7_alike_9 rfl ?_
    refine V_callVw dX7_alike_10 kX7_67 ykX7_isTry (by decide) rfl rfl (tX7_isTry _ h31 (by omega)) rfl (Nat.le_of_ble_eq_true rfl) ⟨by decide, by decide, by decide, by decide⟩ ?_
    refine V_if_ne dX7_alike_13 (fun z => absurd z (fun z => z (bI_f (fun q => hx ⟨h1, q⟩)))) (fun _ => ?_)
    refine V_iconst (v := (-1)) dX7_alike_16 (by decide) ?_
    refine V_iret dX7_alike_17 rfl rfl rfl ?_
    exact Rw_i rfl rfl
  · refine V_if_eq dX7_alike_5 (fun _ => ?_) (fun z => absurd (bI_f h1) z)
    refine V_iconst (v := (-1)) dX7_alike_16 (by decide) ?_
    refine V_iret dX7_alike_17 rfl rfl rfl ?_
    exact Rw_i rfl rfl
set_option maxHeartbeats 4000000 in
theorem tX7_alike_r {tc i j : Nat} (x3 : Int32) (h31 : C 106 31 = nI tc) (htc : tc ≤ 6) (hi : i < tc) (hj : j < tc) (hx : ¬ (0 ≤ x3 ∧ x3 ≤ 1)) : Ct G l yX7_alike cX7_alike 10 (some .int) 2 0 0 sz [.ref (a + 105), .int (nI i), .int (nI j), .int x3] (B G a C) (Rw G a (.int (-2)) C) := by
  refine Ct.of (own := RX7) (mn := "alike") (L0 := [some (.ref (a + 105)), some (.int (nI i)), some (.int (nI j)), some (.int x3), none, none, none, none, none, none]) (by decide +kernel) rfl rfl rfl (Nat.le_of_ble_eq_true rfl) rfl ?_
  refine V_aload_n dX7_alike_0 rfl ?_
  refine V_iload_n dX7_alike_1 rfl ?_
  refine V_callVw dX7_alike_2 kX7_67 ykX7_isTry (by decide) rfl rfl (tX7_isTry _ h31 (by omega)) rfl (Nat.le_of_ble_eq_true rfl) ⟨by decide, by decide, by decide, by decide⟩ ?_
  refine V_if_eq dX7_alike_5 (fun z => absurd z (bI_ne0.mpr (isIx_nI hi (by omega)))) (fun _ => ?_)
  refine V_aload_n dX7_alike_8 rfl ?_
  refine V_iload_n dX7_alike_9 rfl ?_
  refine V_callVw dX7_alike_10 kX7_67 ykX7_isTry (by decide) rfl rfl (tX7_isTry _ h31 (by omega)) rfl (Nat.le_of_ble_eq_true rfl) ⟨by decide, by decide, by decide, by decide⟩ ?_
  refine V_if_ne dX7_alike_13 (fun _ => ?_) (fun z => absurd z ((bI_ne0.mpr (isIx_nI hj (by omega)))))
  refine V_iload_n dX7_alike_18 rfl ?_
  refine V_iconst (v := 0) dX7_alike_19 (by decide) ?_
  refine V_iconst (v := 1) dX7_alike_20 (by decide) ?_
  refine V_callSw dX7_alike_21 kX7_37 ykX7_in (tX7_in _ _ _) rfl (Nat.le_of_ble_eq_true rfl) ⟨by decide, by decide, by decide, by decide⟩ ?_
  refine V_if_ne dX7_alike_24 (fun z => absurd z (fun z => z (bI_f hx))) (fun _ => ?_)
  refine V_bipush (v := (-2)) dX7_alike_27 (by decide) ?_
  refine V_iret dX7_alike_29 rfl rfl rfl ?_
  exact Rw_i rfl rfl
set_option maxHeartbeats 4000000 in
theorem tX7_alike {tc i j li lj : Nat} (x3 : Int32) (h31 : C 106 31 = nI tc) (htc : tc ≤ 6) (hi : i < tc) (hj : j < tc) (hx : 0 ≤ x3 ∧ x3 ≤ 1) (hli : C 106 (38 + 25 * i) = nI li) (hlj : C 106 (38 + 25 * j) = nI lj) (h1 : li ≤ 12) (h2 : lj ≤ 12) : Ct G l yX7_alike cX7_alike 10 (some .int) 2 0 0 sz [.ref (a + 105), .int (nI i), .int (nI j), .int x3] (B G a C) (Rs G a (.int (lcsF (eqM (C 106) i j x3) li lj)) C) := by
  refine Ct.of (own := RX7) (mn := "alike") (L0 := [some (.ref (a + 105)), some (.int (nI i)), some (.int (nI j)), some (.int x3), none, none, none, none, none, none]) (by decide +kernel) rfl rfl rfl (Nat.le_of_ble_eq_true rfl) rfl ?_
  refine V_aload_n dX7_alike_0 rfl ?_
  refine V_iload_n dX7_alike_1 rfl ?_
  refine V_callVw dX7_alike_2 kX7_67 ykX7_isTry (by decide) rfl rfl (tX7_isTry _ h31 (by omega)) rfl (Nat.le_of_ble_eq_true rfl) ⟨by decide, by decide, by decide, by decide⟩ ?_
  refine V_if_eq dX7_alike_5 (fun z => absurd z (bI_ne0.mpr (isIx_nI hi (by omega)))) (fun _ => ?_)
  refine V_aload_n dX7_alike_8 rfl ?_
  refine V_iload_n dX7_alike_9 rfl ?_
  refine V_callVw dX7_alike_10 kX7_67 ykX7_isTry (by decide) rfl rfl (tX7_isTry _ h31 (by omega)) rfl (Nat.le_of_ble_eq_true rfl) ⟨by decide, by decide, by decide, by decide⟩ ?_
  refine V_if_ne dX7_alike_13 (fun _ => ?_) (fun z => absurd z ((bI_ne0.mpr (isIx_nI hj (by omega)))))
  refine V_iload_n dX7_alike_18 rfl ?_
  refine V_iconst (v := 0) dX7_alike_19 (by decide) ?_
  refine V_iconst (v := 1) dX7_alike_20 (by decide) ?_
  refine V_callSw dX7_alike_21 kX7_37 ykX7_in (tX7_in _ _ _) rfl (Nat.le_of_ble_eq_true rfl) ⟨by decide, by decide, by decide, by decide⟩ ?_
  refine V_if_ne dX7_alike_24 (fun _ => ?_) (fun z => absurd z ((bI_ne0.mpr hx)))
  obtain ⟨e, he⟩ : ∃ e, e = eqM (C 106) i j x3 := ⟨_, rfl⟩
  have key : ∀ (m p : Nat) (f : Nat → Int32) (L5 L6 L7 L8 L9 : Option Value), p + m = li + 1 → lcsD e lj f p 0 → V G l RX7 "alike" cX7_alike 10 (some .int) (rmd 2 0 0) E0 (Qm G (Rs G a (.int (lcsF (eqM (C 106) i j x3) li lj)) C) sz 0 0) sz 0 0 33 [some (.ref (a + 105)), some (.int (nI i)), some (.int (nI j)), some (.int x3), some (.int (nI p)), L5, L6, L7, L8, L9] [] (B G a (mset C 114 f)) := by
    intro m
    induction m with
    | zero =>
      intro p f L5 L6 L7 L8 L9 hp hD
      obtain rfl : p = li + 1 := by omega
      refine V_iload dX7_alike_33 rfl ?_
      refine V_aload_n dX7_alike_35 rfl ?_
      refine V_iload_n dX7_alike_36 rfl ?_
      refine V_callVw dX7_alike_37 kX7_60 ykX7_sizeOf (by decide) rfl rfl (tX7_sizeOf (by omega)) rfl (Nat.le_of_ble_eq_true rfl) ⟨by decide, by decide, by decide, by decide⟩ ?_
      rw [show mset C 114 f 106 = C 106 from rfl, hli]
      refine V_icmp_gt dX7_alike_40 (fun _ => ?_) (fun z => absurd ((clt (by repeat (first | with_reducible rfl | with_reducible exact nlit | with_reducible apply nadd | with_reducible apply nmul | with_reducible apply nsub | with_reducible assumption | omega)) (by repeat (first | with_reducible rfl | with_reducible exact nlit | with_reducible apply nadd | with_reducible apply nmul | with_reducible apply nsub | with_reducible assumption | omega)) (by omega) (by omega)).mpr (by omega)) z)
      refine V_aload_n dX7_alike_226 rfl ?_
      refine V_bget dX7_alike_227 fX7_34 (by decide) rfl (by (try simp only [mset_s, mset_n, pk_us, pk_un, ne_eq, Nat.reduceEqDiff, Nat.reduceAdd, not_false_eq_true, not_true_eq_false]) <;> rfl) ?_
      refine V_bipush (v := 13) dX7_alike_230 (by decide) ?_
      refine V_aload_n dX7_alike_232 rfl ?_
      refine V_iload_n dX7_alike_233 rfl ?_
      refine V_callVw dX7_alike_234 kX7_60 ykX7_sizeOf (by decide) rfl rfl (tX7_sizeOf (by omega)) rfl (Nat.le_of_ble_eq_true rfl) ⟨by decide, by decide, by decide, by decide⟩ ?_
      rw [show mset C 114 f 106 = C 106 from rfl, hli]
      refine V_imul dX7_alike_237 ?_
      refine V_aload_n dX7_alike_238 rfl ?_
      refine V_iload_n dX7_alike_239 rfl ?_
      refine V_callVw dX7_alike_240 kX7_60 ykX7_sizeOf (by decide) rfl rfl (tX7_sizeOf (by omega)) rfl (Nat.le_of_ble_eq_true rfl) ⟨by decide, by decide, by decide, by decide⟩ ?_
      rw [show mset C 114 f 106 = C 106 from rfl, hlj]
      refine V_iadd dX7_alike_243 ?_
      refine V_biald dX7_alike_244 (by decide) rfl (by repeat (first | with_reducible rfl | with_reducible exact nlit | with_reducible apply nadd | with_reducible apply nmul | with_reducible apply nsub | with_reducible assumption | omega)) (by omega) (by first | decide | omega) (by (try simp only [mset_s, mset_n, pk_us, pk_un, ne_eq, Nat.reduceEqDiff, Nat.reduceAdd, not_false_eq_true, not_true_eq_false]) <;> rfl) ?_
      rw [hD li lj (Nat.le_refl _) (by omega)]
      refine V_iret dX7_alike_245 rfl rfl rfl ?_
      refine Rs_i (by rw [he]) ⟨fun _ _ => rfl, fun _ _ _ => rfl, fun _ _ => rfl, fun q hq => mset_n (scr_ne rfl hq)⟩
    | succ m ih =>
      intro p f L5 L6 L7 L8 L9 hp hD
      refine V_iload dX7_alike_33 rfl ?_
      refine V_aload_n dX7_alike_35 rfl ?_
      refine V_iload_n dX7_alike_36 rfl ?_
      refine V_callVw dX7_alike_37 kX7_60 ykX7_sizeOf (by decide) rfl rfl (tX7_sizeOf (by omega)) rfl (Nat.le_of_ble_eq_true rfl) ⟨by decide, by decide, by decide, by decide⟩ ?_
      rw [show mset C 114 f 106 = C 106 from rfl, hli]
      refine V_icmp_gt dX7_alike_40 (fun z => absurd z (fun z => absurd ((clt (by repeat (first | with_reducible rfl | with_reducible exact nlit | with_reducible apply nadd | with_reducible apply nmul | with_reducible apply nsub | with_reducible assumption | omega)) (by repeat (first | with_reducible rfl | with_reducible exact nlit | with_reducible apply nadd | with_reducible apply nmul | with_reducible apply nsub | with_reducible assumption | omega)) (by omega) (by omega)).mp z) (by omega))) (fun _ => ?_)
      refine V_iconst (v := 0) dX7_alike_43 (by decide) ?_
      refine V_istore dX7_alike_44 (by decide) (by dsimp only [List.set] <;> rfl) ?_
      have key2 : ∀ (n q : Nat) (f : Nat → Int32) (L6 L7 L8 L9 : Option Value), q + n = lj + 1 → lcsD e lj f p q → V G l RX7 "alike" cX7_alike 10 (some .int) (rmd 2 0 0) E0 (Qm G (Rs G a (.int (lcsF (eqM (C 106) i j x3) li lj)) C) sz 0 0) sz 0 0 46 [some (.ref (a + 105)), some (.int (nI i)), some (.int (nI j)), some (.int x3), some (.int (nI p)), some (.int (nI q)), L6, L7, L8, L9] [] (B G a (mset C 114 f)) := by
        intro n
        induction n with
        | zero =>
          intro q f L6 L7 L8 L9 hq hD
          obtain rfl : q = lj + 1 := by omega
          refine V_iload dX7_alike_46 rfl ?_
          refine V_aload_n dX7_alike_48 rfl ?_
          refine V_iload_n dX7_alike_49 rfl ?_
          refine V_callVw dX7_alike_50 kX7_60 ykX7_sizeOf (by decide) rfl rfl (tX7_sizeOf (by omega)) rfl (Nat.le_of_ble_eq_true rfl) ⟨by decide, by decide, by decide, by decide⟩ ?_
          rw [show mset C 114 f 106 = C 106 from rfl, hlj]
          refine V_icmp_gt dX7_alike_53 (fun _ => ?_) (fun z => absurd ((clt (by repeat (first | with_reducible rfl | with_reducible exact nlit | with_reducible apply nadd | with_reducible apply nmul | with_reducible apply nsub | with_reducible assumption | omega)) (by repeat (first | with_reducible rfl | with_reducible exact nlit | with_reducible apply nadd | with_reducible apply nmul | with_reducible apply nsub | with_reducible assumption | omega)) (by omega) (by omega)).mpr (by omega)) z)
          refine V_iinc dX7_alike_220 rfl (ninc _) (by decide) (by dsimp only [List.set] <;> rfl) ?_
          refine V_goto dX7_alike_223 ?_
          exact ih (p + 1) f _ _ _ _ _ (by omega) (lcsD_n hD)
        | succ n ih2 =>
          intro q f L6 L7 L8 L9 hq hD
          have tail : ∀ (v : Int32) (L7 L8 L9 : Option Value), v = lcsF e p q → V G l RX7 "alike" cX7_alike 10 (some .int) (rmd 2 0 0) E0 (Qm G (Rs G a (.int (lcsF (eqM (C 106) i j x3) li lj)) C) sz 0 0) sz 0 0 199 [some (.ref (a + 105)), some (.int (nI i)), some (.int (nI j)), some (.int x3), some (.int (nI p)), some (.int (nI q)), some (.int v), L7, L8, L9] [] (B G a (mset C 114 f)) := by
            intro v L7 L8 L9 hv
            refine V_aload_n dX7_alike_199 rfl ?_
            refine V_bget dX7_alike_200 fX7_34 (by decide) rfl (by (try simp only [mset_s, mset_n, pk_us, pk_un, ne_eq, Nat.reduceEqDiff, Nat.reduceAdd, not_false_eq_true, not_true_eq_false]) <;> rfl) ?_
            refine V_bipush (v := 13) dX7_alike_203 (by decide) ?_
            refine V_iload dX7_alike_205 rfl ?_
            refine V_imul dX7_alike_207 ?_
            refine V_iload dX7_alike_208 rfl ?_
            refine V_iadd dX7_alike_210 ?_
            refine V_iload dX7_alike_211 rfl ?_
            refine V_biast dX7_alike_213 (by decide) (fun _ => rfl) (by repeat (first | with_reducible rfl | with_reducible exact nlit | with_reducible apply nadd | with_reducible apply nmul | with_reducible apply nsub | with_reducible assumption | omega)) (by omega) (by first | decide | omega) ?_
            refine V_iinc dX7_alike_214 rfl (ninc _) (by decide) (by dsimp only [List.set] <;> rfl) ?_
            refine V_goto dX7_alike_217 ?_
            simp only [mset_s, mset_ss]
            exact ih2 (q + 1) _ _ _ _ _ (by omega) (lcsD_s hD h2 (by omega) hv)
          refine V_iload dX7_alike_46 rfl ?_
          refine V_aload_n dX7_alike_48 rfl ?_
          refine V_iload_n dX7_alike_49 rfl ?_
          refine V_callVw dX7_alike_50 kX7_60 ykX7_sizeOf (by decide) rfl rfl (tX7_sizeOf (by omega)) rfl (Nat.le_of_ble_eq_true rfl) ⟨by decide, by decide, by decide, by decide⟩ ?_
          rw [show mset C 114 f 106 = C 106 from rfl, hlj]
          refine V_icmp_gt dX7_alike_53 (fun z => absurd z (fun z => absurd ((clt (by repeat (first | with_reducible rfl | with_reducible exact nlit | with_reducible apply nadd | with_reducible apply nmul | with_reducible apply nsub | with_reducible assumption | omega)) (by repeat (first | with_reducible rfl | with_reducible exact nlit | with_reducible apply nadd | with_reducible apply nmul | with_reducible apply nsub | with_reducible assumption | omega)) (by omega) (by omega)).mp z) (by omega))) (fun _ => ?_)
          refine V_iconst (v := 0) dX7_alike_56 (by decide) ?_
          refine V_istore dX7_alike_57 (by decide) (by dsimp only [List.set] <;> rfl) ?_
          refine V_iload dX7_alike_59 rfl ?_
          cases p with
          | zero =>
            refine V_if_le dX7_alike_61 (fun _ => ?_) (fun z => absurd (by decide) z)
            exact tail 0 _ _ _ rfl
          | succ p =>
            refine V_if_le dX7_alike_61 (fun z => absurd z (fun z => absurd ((cle (by repeat (first | with_reducible rfl | with_reducible exact nlit | with_reducible apply nadd | with_reducible apply nmul | with_reducible apply nsub | with_reducible assumption | omega)) (by repeat (first | with_reducible rfl | with_reducible exact nlit | with_reducible apply nadd | with_reducible apply nmul | with_reducible apply nsub | with_reducible assumption | omega)) (by omega) (by omega)).mp z) (by omega))) (fun _ => ?_)
            refine V_iload dX7_alike_64 rfl ?_
            cases q with
            | zero =>
              refine V_if_le dX7_alike_66 (fun _ => ?_) (fun z => absurd (by decide) z)
              exact tail 0 _ _ _ rfl
            | succ q =>
              refine V_if_le dX7_alike_66 (fun z => absurd z (fun z => absurd ((cle (by repeat (first | with_reducible rfl | with_reducible exact nlit | with_reducible apply nadd | with_reducible apply nmul | with_reducible apply nsub | with_reducible assumption | omega)) (by repeat (first | with_reducible rfl | with_reducible exact nlit | with_reducible apply nadd | with_reducible apply nmul | with_reducible apply nsub | with_reducible assumption | omega)) (by omega) (by omega)).mp z) (by omega))) (fun _ => ?_)
              have e1 : nI (p + 1) - 1 = nI p := nI_pred p
              have e2 : nI (q + 1) - 1 = nI q := nI_pred q
              have d1 : f (13 * (p + 1) + (q + 1) - 1) = lcsF e (p + 1) q := by
                rw [show 13 * (p + 1) + (q + 1) - 1 = 13 * (p + 1) + q by omega]
                exact hD (p + 1) q (by omega) (by omega)
              have d2 : f (13 * (p + 1) - 13 + (q + 1)) = lcsF e p (q + 1) := by
                rw [show 13 * (p + 1) - 13 + (q + 1) = 13 * p + (q + 1) by omega]
                exact hD p (q + 1) (by omega) (by omega)
              have d3 : f (13 * p + q) = lcsF e p q := hD p q (by omega) (by omega)
              have ei : (13 : Int32) * nI (p + 1) - 14 + nI (q + 1) = nI (13 * p + q) := by
                rw [show (13 : Int32) * nI (p + 1) = nI (13 * (p + 1)) from nmul nlit rfl, Int32.sub_eq_add_neg, Int32.add_assoc, Int32.add_comm (-14), ← Int32.add_assoc, ← Int32.sub_eq_add_neg, nI_add, show (14 : Int32) = nI 14 from rfl, pk_sub (by omega)]
                congr 1
                omega
              have rest : ∀ (b : Bool) (L7 L8 L9 : Option Value), b = e p q → V G l RX7 "alike" cX7_alike 10 (some .int) (rmd 2 0 0) E0 (Qm G (Rs G a (.int (lcsF (eqM (C 106) i j x3) li lj)) C) sz 0 0) sz 0 0 120 [some (.ref (a + 105)), some (.int (nI i)), some (.int (nI j)), some (.int x3), some (.int (nI (p + 1))), some (.int (nI (q + 1))), some (.int 0), L7, L8, L9] [.int (bI (b = true))] (B G a (mset C 114 f)) := by
                intro b L7 L8 L9 hb
                refine V_istore dX7_alike_120 (by decide) (by dsimp only [List.set] <;> rfl) ?_
                refine V_aload_n dX7_alike_122 rfl ?_
                refine V_bget dX7_alike_123 fX7_34 (by decide) rfl (by (try simp only [mset_s, mset_n, pk_us, pk_un, ne_eq, Nat.reduceEqDiff, Nat.reduceAdd, not_false_eq_true, not_true_eq_false]) <;> rfl) ?_
                refine V_bipush (v := 13) dX7_alike_126 (by decide) ?_
                refine V_iload dX7_alike_128 rfl ?_
                refine V_imul dX7_alike_130 ?_
                refine V_iload dX7_alike_131 rfl ?_
                refine V_iadd dX7_alike_133 ?_
                refine V_iconst (v := 1) dX7_alike_134 (by decide) ?_
                refine V_isub dX7_alike_135 ?_
                refine V_biald dX7_alike_136 (by decide) rfl (by repeat (first | with_reducible rfl | with_reducible exact nlit | with_reducible apply nadd | with_reducible apply nmul | with_reducible apply nsub | with_reducible assumption | omega)) (by omega) (by first | decide | omega) (by (try simp only [mset_s, mset_n, pk_us, pk_un, ne_eq, Nat.reduceEqDiff, Nat.reduceAdd, not_false_eq_true, not_true_eq_false]) <;> rfl) ?_
                rw [d1]
                refine V_istore dX7_alike_137 (by decide) (by dsimp only [List.set] <;> rfl) ?_
                refine V_aload_n dX7_alike_139 rfl ?_
                refine V_bget dX7_alike_140 fX7_34 (by decide) rfl (by (try simp only [mset_s, mset_n, pk_us, pk_un, ne_eq, Nat.reduceEqDiff, Nat.reduceAdd, not_false_eq_true, not_true_eq_false]) <;> rfl) ?_
                refine V_bipush (v := 13) dX7_alike_143 (by decide) ?_
                refine V_iload dX7_alike_145 rfl ?_
                refine V_imul dX7_alike_147 ?_
                refine V_bipush (v := 13) dX7_alike_148 (by decide) ?_
                refine V_isub dX7_alike_150 ?_
                refine V_iload dX7_alike_151 rfl ?_
                refine V_iadd dX7_alike_153 ?_
                refine V_biald dX7_alike_154 (by decide) rfl (by repeat (first | with_reducible rfl | with_reducible exact nlit | with_reducible apply nadd | with_reducible apply nmul | with_reducible apply nsub | with_reducible assumption | omega)) (by omega) (by first | decide | omega) (by (try simp only [mset_s, mset_n, pk_us, pk_un, ne_eq, Nat.reduceEqDiff, Nat.reduceAdd, not_false_eq_true, not_true_eq_false]) <;> rfl) ?_
                rw [d2]
                refine V_istore dX7_alike_155 (by decide) (by dsimp only [List.set] <;> rfl) ?_
                refine V_iload dX7_alike_157 rfl ?_
                cases b with
                | true =>
                  refine V_if_eq dX7_alike_159 (fun z => absurd z (bI_ne0.mpr rfl)) (fun _ => ?_)
                  refine V_aload_n dX7_alike_162 rfl ?_
                  refine V_bget dX7_alike_163 fX7_34 (by decide) rfl (by (try simp only [mset_s, mset_n, pk_us, pk_un, ne_eq, Nat.reduceEqDiff, Nat.reduceAdd, not_false_eq_true, not_true_eq_false]) <;> rfl) ?_
                  refine V_bipush (v := 13) dX7_alike_166 (by decide) ?_
                  refine V_iload dX7_alike_168 rfl ?_
                  refine V_imul dX7_alike_170 ?_
                  refine V_bipush (v := 14) dX7_alike_171 (by decide) ?_
                  refine V_isub dX7_alike_173 ?_
                  refine V_iload dX7_alike_174 rfl ?_
                  refine V_iadd dX7_alike_176 ?_
                  refine V_biald dX7_alike_177 (by decide) rfl ei (by omega) (by first | decide | omega) (by (try simp only [mset_s, mset_n, pk_us, pk_un, ne_eq, Nat.reduceEqDiff, Nat.reduceAdd, not_false_eq_true, not_true_eq_false]) <;> rfl) ?_
                  rw [d3]
                  refine V_iconst (v := 1) dX7_alike_178 (by decide) ?_
                  refine V_iadd dX7_alike_179 ?_
                  refine V_goto dX7_alike_180 ?_
                  refine V_istore dX7_alike_197 (by decide) (by dsimp only [List.set] <;> rfl) ?_
                  exact tail _ _ _ _ (by rw [lcsF, lcsR, if_pos hb.symm])
                | false =>
                  have hne : ¬ e p q = true := by rw [← hb]; decide
                  refine V_if_eq dX7_alike_159 (fun _ => ?_) (fun z => absurd (bI_f (by decide)) z)
                  refine V_iload dX7_alike_183 rfl ?_
                  refine V_iload dX7_alike_185 rfl ?_
                  refine V_icmp_le dX7_alike_187 (fun c187 => ?_) (fun c187 => ?_)
                  · refine V_iload dX7_alike_195 rfl ?_
                    refine V_istore dX7_alike_197 (by decide) (by dsimp only [List.set] <;> rfl) ?_
                    exact tail _ _ _ _ (by rw [lcsF, lcsR, if_neg hne, if_neg (fun z => by rw [i_lt] at z; rw [i_le] at c187; rw [lcsF_s] at c187; omega)])
                  · refine V_iload dX7_alike_190 rfl ?_
                    refine V_goto dX7_alike_192 ?_
                    refine V_istore dX7_alike_197 (by decide) (by dsimp only [List.set] <;> rfl) ?_
                    exact tail _ _ _ _ (by rw [lcsF, lcsR, if_neg hne, if_pos (by rw [i_lt]; rw [i_le] at c187; rw [lcsF_s] at c187; omega)])
              have rest0 := rest
              refine V_aload_n dX7_alike_69 rfl ?_
              refine V_iload_n dX7_alike_70 rfl ?_
              refine V_iload dX7_alike_71 rfl ?_
              refine V_iconst (v := 1) dX7_alike_73 (by decide) ?_
              refine V_isub dX7_alike_74 ?_
              rw [e1]
              refine V_callVw dX7_alike_75 kX7_71 ykX7_verbOf (by decide) rfl rfl (tX7_verbOf (by omega) (by omega)) rfl (Nat.le_of_ble_eq_true rfl) ⟨by decide, by decide, by decide, by decide⟩ ?_
              refine V_aload_n dX7_alike_78 rfl ?_
              refine V_iload_n dX7_alike_79 rfl ?_
              refine V_iload dX7_alike_80 rfl ?_
              refine V_iconst (v := 1) dX7_alike_82 (by decide) ?_
              refine V_isub dX7_alike_83 ?_
              rw [e2]
              refine V_callVw dX7_alike_84 kX7_71 ykX7_verbOf (by decide) rfl rfl (tX7_verbOf (by omega) (by omega)) rfl (Nat.le_of_ble_eq_true rfl) ⟨by decide, by decide, by decide, by decide⟩ ?_
              rw [show mset C 114 f 106 = C 106 from rfl]
              have yes : e p q = true → V G l RX7 "alike" cX7_alike 10 (some .int) (rmd 2 0 0) E0 (Qm G (Rs G a (.int (lcsF (eqM (C 106) i j x3) li lj)) C) sz 0 0) sz 0 0 115 [some (.ref (a + 105)), some (.int (nI i)), some (.int (nI j)), some (.int x3), some (.int (nI (p + 1))), some (.int (nI (q + 1))), some (.int 0), L7, L8, L9] [] (B G a (mset C 114 f)) := by
                intro h
                refine V_iconst (v := 1) dX7_alike_115 (by decide) ?_
                refine V_goto dX7_alike_116 ?_
                have := rest true L7 L8 L9 h.symm
                rw [bI_t rfl] at this
                exact this
              have no : ¬ e p q = true → V G l RX7 "alike" cX7_alike 10 (some .int) (rmd 2 0 0) E0 (Qm G (Rs G a (.int (lcsF (eqM (C 106) i j x3) li lj)) C) sz 0 0) sz 0 0 119 [some (.ref (a + 105)), some (.int (nI i)), some (.int (nI j)), some (.int x3), some (.int (nI (p + 1))), some (.int (nI (q + 1))), some (.int 0), L7, L8, L9] [] (B G a (mset C 114 f)) := by
                intro h
                refine V_iconst (v := 0) dX7_alike_119 (by decide) ?_
                have := rest false L7 L8 L9 (by cases hh : e p q with | true => exact absurd hh h | false => rfl)
                rw [bI_f (by decide)] at this
                exact this
              refine V_icmp_ne dX7_alike_87 (fun c87 => ?_) (fun c87 => ?_)
              · exact no (fun z => by rw [he] at z; exact c87 (of_decide_eq_true z).1)
              refine V_iload_n dX7_alike_90 rfl ?_
              by_cases hw : x3 = 0
              · refine V_if_eq dX7_alike_91 (fun _ => ?_) (fun z => absurd hw z)
                exact yes (by rw [he]; exact decide_eq_true ⟨c87, Or.inl hw⟩)
              refine V_if_eq dX7_alike_91 (fun z => absurd z hw) (fun _ => ?_)
              refine V_aload_n dX7_alike_94 rfl ?_
              refine V_iload_n dX7_alike_95 rfl ?_
              refine V_iload dX7_alike_96 rfl ?_
              refine V_iconst (v := 1) dX7_alike_98 (by decide) ?_
              refine V_isub dX7_alike_99 ?_
              rw [e1]
              refine V_callVw dX7_alike_100 kX7_75 ykX7_numberOf (by decide) rfl rfl (tX7_numberOf (by omega) (by omega)) rfl (Nat.le_of_ble_eq_true rfl) ⟨by decide, by decide, by decide, by decide⟩ ?_
              refine V_aload_n dX7_alike_103 rfl ?_
              refine V_iload_n dX7_alike_104 rfl ?_
              refine V_iload dX7_alike_105 rfl ?_
              refine V_iconst (v := 1) dX7_alike_107 (by decide) ?_
              refine V_isub dX7_alike_108 ?_
              rw [e2]
              refine V_callVw dX7_alike_109 kX7_75 ykX7_numberOf (by decide) rfl rfl (tX7_numberOf (by omega) (by omega)) rfl (Nat.le_of_ble_eq_true rfl) ⟨by decide, by decide, by decide, by decide⟩ ?_
              rw [show mset C 114 f 106 = C 106 from rfl]
              refine V_icmp_ne dX7_alike_112 (fun c112 => ?_) (fun c112 => ?_)
              · exact no (fun z => by rw [he] at z; exact (of_decide_eq_true z).2.elim hw c112)
              · exact yes (by rw [he]; exact decide_eq_true ⟨c87, Or.inr c112⟩)
      exact key2 (lj + 1) 0 f _ _ _ _ (by omega) hD
  refine V_iconst (v := 0) dX7_alike_30 (by decide) ?_
  refine V_istore dX7_alike_31 (by decide) (by dsimp only [List.set] <;> rfl) ?_
  have k0 := key (li + 1) 0 (C 114) none none none none none (by omega) (by intro i' k' _ h; omega)
  rw [mset_eta] at k0
  exact k0
set_option maxHeartbeats 4000000 in
theorem tX7_cell_o (x1 : Int32) (hx : ¬ (0 ≤ x1 ∧ x1 ≤ 29)) : Ct G l yX7_cell cX7_cell 2 (some .int) 1 0 0 sz [.ref (a + 105), .int x1] (B G a C) (Rw G a (.int (-1)) C) := by
  refine Ct.of (own := RX7) (mn := "cell") (L0 := [some (.ref (a + 105)), some (.int x1)]) (by decide +kernel) rfl rfl rfl (Nat.le_of_ble_eq_true rfl) rfl ?_
  refine V_iload_n dX7_cell_0 rfl ?_
  refine V_iconst (v := 0) dX7_cell_1 (by decide) ?_
  refine V_bipush (v := 29) dX7_cell_2 (by decide) ?_
  refine V_callSw dX7_cell_4 kX7_37 ykX7_in (tX7_in _ _ _) rfl (Nat.le_of_ble_eq_true rfl) ⟨by decide, by decide, by decide, by decide⟩ ?_
  refine V_if_eq dX7_cell_7 (fun _ => ?_) (fun z => absurd (bI_f hx) z)
  refine V_iconst (v := (-1)) dX7_cell_19 (by decide) ?_
  refine V_iret dX7_cell_20 rfl rfl rfl ?_
  exact Rw_i rfl rfl
set_option maxHeartbeats 4000000 in
theorem tX7_cell {n : Nat} (hn : n < 30) : Ct G l yX7_cell cX7_cell 2 (some .int) 1 0 0 sz [.ref (a + 105), .int (nI n)] (B G a C) (Rw G a (.int (C 106 n)) C) := by
  refine Ct.of (own := RX7) (mn := "cell") (L0 := [some (.ref (a + 105)), some (.int (nI n))]) (by decide +kernel) rfl rfl rfl (Nat.le_of_ble_eq_true rfl) rfl ?_
  refine V_iload_n dX7_cell_0 rfl ?_
  refine V_iconst (v := 0) dX7_cell_1 (by decide) ?_
  refine V_bipush (v := 29) dX7_cell_2 (by decide) ?_
  refine V_callSw dX7_cell_4 kX7_37 ykX7_in (tX7_in _ _ _) rfl (Nat.le_of_ble_eq_true rfl) ⟨by decide, by decide, by decide, by decide⟩ ?_
  refine V_if_eq dX7_cell_7 (fun z => absurd z (bI_ne0.mpr ⟨(cle nlit rfl (by omega) (by omega)).mpr (by omega), (cle rfl nlit (by omega) (by omega)).mpr (by omega)⟩)) (fun _ => ?_)
  refine V_aload_n dX7_cell_10 rfl ?_
  refine V_bget dX7_cell_11 fX7_7 (by decide) rfl (by (try simp only [mset_s, mset_n, pk_us, pk_un, ne_eq, Nat.reduceEqDiff, Nat.reduceAdd, not_false_eq_true, not_true_eq_false]) <;> rfl) ?_
  refine V_iload_n dX7_cell_14 rfl ?_
  refine V_biald dX7_cell_15 (by decide) rfl (by repeat (first | with_reducible rfl | with_reducible exact nlit | with_reducible apply nadd | with_reducible apply nmul | with_reducible apply nsub | with_reducible assumption | omega)) (by omega) (by first | decide | omega) (by (try simp only [mset_s, mset_n, pk_us, pk_un, ne_eq, Nat.reduceEqDiff, Nat.reduceAdd, not_false_eq_true, not_true_eq_false]) <;> rfl) ?_
  refine V_goto dX7_cell_16 ?_
  refine V_iret dX7_cell_20 rfl rfl rfl ?_
  exact Rw_i rfl rfl
set_option maxHeartbeats 4000000 in
/-- the try n: kept, or the open one -/
theorem tX7_ofTry {tc n len : Nat} (x2 x3 : Int32) (h31 : C 106 31 = nI tc) (htc : tc ≤ 6) (hn : n < tc ∨ (C 106 32 = 1 ∧ n = tc)) (hl : C 106 (38 + 25 * n) = nI len) (hlen : len ≤ 12) : Ct G l yX7_ofTry cX7_ofTry 5 (some .int) 2 0 0 sz [.ref (a + 105), .int (nI n), .int x2, .int x3] (B G a C) (Rw G a (.int (if ¬ isIx x2 len then -1 else if x3 = 0 then C 106 (38 + 25 * n + 1 + 2 * x2.toInt.toNat) else if x3 = 1 then C 106 (38 + 25 * n + 2 + 2 * x2.toInt.toNat) else -2)) C) := by
  have hn6 : n ≤ 6 := by omega
  refine Ct.of (own := RX7) (mn := "ofTry") (L0 := [some (.ref (a + 105)), some (.int (nI n)), some (.int x2), some (.int x3), none]) (by decide +kernel) rfl rfl rfl (Nat.le_of_ble_eq_true rfl) rfl ?_
  have go : V G l RX7 "ofTry" cX7_ofTry 5 (some .int) (rmd 2 0 0) E0 (Qm G (Rw G a (.int (if ¬ isIx x2 len then -1 else if x3 = 0 then C 106 (38 + 25 * n + 1 + 2 * x2.toInt.toNat) else if x3 = 1 then C 106 (38 + 25 * n + 2 + 2 * x2.toInt.toNat) else -2)) C) sz 0 0) sz 0 0 30 [some (.ref (a + 105)), some (.int (nI n)), some (.int x2), some (.int x3), none] [] (B G a C) := by
    refine V_iconst (v := 1) dX7_ofTry_30 (by decide) ?_
    refine V_goto dX7_ofTry_31 ?_
    refine V_istore dX7_ofTry_35 (by decide) (by dsimp only [List.set] <;> rfl) ?_
    refine V_iload dX7_ofTry_37 rfl ?_
    refine V_if_eq dX7_ofTry_39 (fun z => absurd z (by decide)) (fun _ => ?_)
    refine V_iload_n dX7_ofTry_42 rfl ?_
    refine V_iconst (v := 0) dX7_ofTry_43 (by decide) ?_
    refine V_aload_n dX7_ofTry_44 rfl ?_
    refine V_iload_n dX7_ofTry_45 rfl ?_
    refine V_callVw dX7_ofTry_46 kX7_60 ykX7_sizeOf (by decide) rfl rfl (tX7_sizeOf (by omega)) rfl (Nat.le_of_ble_eq_true rfl) ⟨by decide, by decide, by decide, by decide⟩ ?_
    rw [hl]
    refine V_iconst (v := 1) dX7_ofTry_49 (by decide) ?_
    refine V_isub dX7_ofTry_50 ?_
    refine V_callSw dX7_ofTry_51 kX7_37 ykX7_in (tX7_in _ _ _) rfl (Nat.le_of_ble_eq_true rfl) ⟨by decide, by decide, by decide, by decide⟩ ?_
    rw [inIx (by omega)]
    by_cases h2 : isIx x2 len
    · obtain ⟨ex, hk⟩ := isIx_n h2
      refine V_if_ne dX7_ofTry_54 (fun _ => ?_) (fun z => absurd z ((bI_ne0.mpr h2)))
      refine V_iload_n dX7_ofTry_59 rfl ?_
      by_cases h0 : x3 = 0
      · refine V_if_ne dX7_ofTry_60 (fun z => absurd z (fun z => z h0)) (fun _ => ?_)
        refine V_aload_n dX7_ofTry_63 rfl ?_
        refine V_iload_n dX7_ofTry_64 rfl ?_
        refine V_iload_n dX7_ofTry_65 rfl ?_
        refine V_toe ex ?_
        refine V_callVw dX7_ofTry_66 kX7_71 ykX7_verbOf (by decide) rfl rfl (tX7_verbOf (by omega) (by omega)) rfl (Nat.le_of_ble_eq_true rfl) ⟨by decide, by decide, by decide, by decide⟩ ?_
        refine V_goto dX7_ofTry_69 ?_
        refine V_iret dX7_ofTry_88 rfl rfl rfl ?_
        exact Rw_i (by rw [if_neg (fun z => z h2), if_pos h0]) rfl
      refine V_if_ne dX7_ofTry_60 (fun _ => ?_) (fun z => absurd z h0)
      refine V_iload_n dX7_ofTry_72 rfl ?_
      refine V_iconst (v := 1) dX7_ofTry_73 (by decide) ?_
      by_cases h1 : x3 = 1
      · refine V_icmp_ne dX7_ofTry_74 (fun z => absurd z (fun z => z h1)) (fun _ => ?_)
        refine V_aload_n dX7_ofTry_77 rfl ?_
        refine V_iload_n dX7_ofTry_78 rfl ?_
        refine V_iload_n dX7_ofTry_79 rfl ?_
        refine V_toe ex ?_
        refine V_callVw dX7_ofTry_80 kX7_75 ykX7_numberOf (by decide) rfl rfl (tX7_numberOf (by omega) (by omega)) rfl (Nat.le_of_ble_eq_true rfl) ⟨by decide, by decide, by decide, by decide⟩ ?_
        refine V_goto dX7_ofTry_83 ?_
        refine V_iret dX7_ofTry_88 rfl rfl rfl ?_
        exact Rw_i (by rw [if_neg (fun z => z h2), if_neg h0, if_pos h1]) rfl
      refine V_icmp_ne dX7_ofTry_74 (fun _ => ?_) (fun z => absurd z h1)
      refine V_bipush (v := (-2)) dX7_ofTry_86 (by decide) ?_
      refine V_iret dX7_ofTry_88 rfl rfl rfl ?_
      exact Rw_i (by rw [if_neg (fun z => z h2), if_neg h0, if_neg h1]) rfl
    · refine V_if_ne dX7_ofTry_54 (fun z => absurd z (fun z => z (bI_f h2))) (fun _ => ?_)
      refine V_iconst (v := (-1)) dX7_ofTry_57 (by decide) ?_
      refine V_iret dX7_ofTry_58 rfl rfl rfl ?_
      exact Rw_i (by rw [if_pos h2]) rfl
  refine V_aload_n dX7_ofTry_0 rfl ?_
  refine V_iload_n dX7_ofTry_1 rfl ?_
  refine V_callVw dX7_ofTry_2 kX7_67 ykX7_isTry (by decide) rfl rfl (tX7_isTry _ h31 (by omega)) rfl (Nat.le_of_ble_eq_true rfl) ⟨by decide, by decide, by decide, by decide⟩ ?_
  by_cases h1 : n < tc
  · refine V_if_ne dX7_ofTry_5 (fun _ => ?_) (fun z => absurd z ((bI_ne0.mpr (isIx_nI h1 (by omega)))))
    exact go
  · obtain ⟨ho, rfl⟩ := hn.resolve_left h1
    refine V_if_ne dX7_ofTry_5 (fun z => absurd z (fun z => z (bI_f (by unfold isIx; rw [nI_toInt (by omega)]; omega)))) (fun _ => ?_)
    refine V_aload_n dX7_ofTry_8 rfl ?_
    refine V_bget dX7_ofTry_9 fX7_7 (by decide) rfl (by (try simp only [mset_s, mset_n, pk_us, pk_un, ne_eq, Nat.reduceEqDiff, Nat.reduceAdd, not_false_eq_true, not_true_eq_false]) <;> rfl) ?_
    refine V_bipush (v := 32) dX7_ofTry_12 (by decide) ?_
    refine V_biald dX7_ofTry_14 (by decide) rfl (by repeat (first | with_reducible rfl | with_reducible exact nlit | with_reducible apply nadd | with_reducible apply nmul | with_reducible apply nsub | with_reducible assumption | omega)) (by omega) (by first | decide | omega) (by (try simp only [mset_s, mset_n, pk_us, pk_un, ne_eq, Nat.reduceEqDiff, Nat.reduceAdd, not_false_eq_true, not_true_eq_false]) <;> rfl) ?_
    refine V_iconst (v := 1) dX7_ofTry_15 (by decide) ?_
    refine V_icmp_ne dX7_ofTry_16 (fun z => absurd z (fun z => z ho)) (fun _ => ?_)
    refine V_iload_n dX7_ofTry_19 rfl ?_
    refine V_aload_n dX7_ofTry_20 rfl ?_
    refine V_bget dX7_ofTry_21 fX7_7 (by decide) rfl (by (try simp only [mset_s, mset_n, pk_us, pk_un, ne_eq, Nat.reduceEqDiff, Nat.reduceAdd, not_false_eq_true, not_true_eq_false]) <;> rfl) ?_
    refine V_bipush (v := 31) dX7_ofTry_24 (by decide) ?_
    refine V_biald dX7_ofTry_26 (by decide) rfl (by repeat (first | with_reducible rfl | with_reducible exact nlit | with_reducible apply nadd | with_reducible apply nmul | with_reducible apply nsub | with_reducible assumption | omega)) (by omega) (by first | decide | omega) (by (try simp only [mset_s, mset_n, pk_us, pk_un, ne_eq, Nat.reduceEqDiff, Nat.reduceAdd, not_false_eq_true, not_true_eq_false]) <;> rfl) ?_
    rw [h31]
    refine V_icmp_ne dX7_ofTry_27 (fun z => absurd z (fun z => z rfl)) (fun _ => ?_)
    exact go
set_option maxHeartbeats 4000000 in
theorem tX7_ofTry_o {tc : Nat} (x1 x2 x3 : Int32) (h31 : C 106 31 = nI tc) (htc : tc ≤ 6) (hn : ¬ (isIx x1 tc ∨ (C 106 32 = 1 ∧ x1 = nI tc))) : Ct G l yX7_ofTry cX7_ofTry 5 (some .int) 2 0 0 sz [.ref (a + 105), .int x1, .int x2, .int x3] (B G a C) (Rw G a (.int (-1)) C) := by
  refine Ct.of (own := RX7) (mn := "ofTry") (L0 := [some (.ref (a + 105)), some (.int x1), some (.int x2), some (.int x3), none]) (by decide +kernel) rfl rfl rfl (Nat.le_of_ble_eq_true rfl) rfl ?_
  refine V_aload_n dX7_ofTry_0 rfl ?_
  refine V_iload_n dX7_ofTry_1 rfl ?_
  refine V_callVw dX7_ofTry_2 kX7_67 ykX7_isTry (by decide) rfl rfl (tX7_isTry _ h31 (by omega)) rfl (Nat.le_of_ble_eq_true rfl) ⟨by decide, by decide, by decide, by decide⟩ ?_
  refine V_if_ne dX7_ofTry_5 (fun z => absurd z (fun z => z (bI_f (fun q => hn (Or.inl q))))) (fun _ => ?_)
  refine V_aload_n dX7_ofTry_8 rfl ?_
  refine V_bget dX7_ofTry_9 fX7_7 (by decide) rfl (by (try simp only [mset_s, mset_n, pk_us, pk_un, ne_eq, Nat.reduceEqDiff, Nat.reduceAdd, not_false_eq_true, not_true_eq_false]) <;> rfl) ?_
  refine V_bipush (v := 32) dX7_ofTry_12 (by decide) ?_
  refine V_biald dX7_ofTry_14 (by decide) rfl (by repeat (first | with_reducible rfl | with_reducible exact nlit | with_reducible apply nadd | with_reducible apply nmul | with_reducible apply nsub | with_reducible assumption | omega)) (by omega) (by first | decide | omega) (by (try simp only [mset_s, mset_n, pk_us, pk_un, ne_eq, Nat.reduceEqDiff, Nat.reduceAdd, not_false_eq_true, not_true_eq_false]) <;> rfl) ?_
  refine V_iconst (v := 1) dX7_ofTry_15 (by decide) ?_
  by_cases ho : C 106 32 = 1
  · refine V_icmp_ne dX7_ofTry_16 (fun z => absurd z (fun z => z ho)) (fun _ => ?_)
    refine V_iload_n dX7_ofTry_19 rfl ?_
    refine V_aload_n dX7_ofTry_20 rfl ?_
    refine V_bget dX7_ofTry_21 fX7_7 (by decide) rfl (by (try simp only [mset_s, mset_n, pk_us, pk_un, ne_eq, Nat.reduceEqDiff, Nat.reduceAdd, not_false_eq_true, not_true_eq_false]) <;> rfl) ?_
    refine V_bipush (v := 31) dX7_ofTry_24 (by decide) ?_
    refine V_biald dX7_ofTry_26 (by decide) rfl (by repeat (first | with_reducible rfl | with_reducible exact nlit | with_reducible apply nadd | with_reducible apply nmul | with_reducible apply nsub | with_reducible assumption | omega)) (by omega) (by first | decide | omega) (by (try simp only [mset_s, mset_n, pk_us, pk_un, ne_eq, Nat.reduceEqDiff, Nat.reduceAdd, not_false_eq_true, not_true_eq_false]) <;> rfl) ?_
    rw [h31]
    refine V_icmp_ne dX7_ofTry_27 (fun _ => ?_) (fun z => absurd z ((fun z => hn (Or.inr ⟨ho, z⟩))))
    refine V_iconst (v := 0) dX7_ofTry_34 (by decide) ?_
    refine V_istore dX7_ofTry_35 (by decide) (by dsimp only [List.set] <;> rfl) ?_
    refine V_iload dX7_ofTry_37 rfl ?_
    refine V_if_eq dX7_ofTry_39 (fun _ => ?_) (fun z => absurd rfl z)
    refine V_iconst (v := (-1)) dX7_ofTry_57 (by decide) ?_
    refine V_iret dX7_ofTry_58 rfl rfl rfl ?_
    exact Rw_i rfl rfl
  · refine V_icmp_ne dX7_ofTry_16 (fun _ => ?_) (fun z => absurd z ho)
    refine V_iconst (v := 0) dX7_ofTry_34 (by decide) ?_
    refine V_istore dX7_ofTry_35 (by decide) (by dsimp only [List.set] <;> rfl) ?_
    refine V_iload dX7_ofTry_37 rfl ?_
    refine V_if_eq dX7_ofTry_39 (fun _ => ?_) (fun z => absurd rfl z)
    refine V_iconst (v := (-1)) dX7_ofTry_57 (by decide) ?_
    refine V_iret dX7_ofTry_58 rfl rfl rfl ?_
    exact Rw_i rfl rfl
set_option maxHeartbeats 4000000 in
theorem tX7_ofLoop_o {lc : Nat} (x1 x2 x3 : Int32) (h33 : C 106 33 = nI lc) (hlc : lc ≤ 6) (hx : ¬ isIx x1 lc) : Ct G l yX7_ofLoop cX7_ofLoop 5 (some .int) 2 0 0 sz [.ref (a + 105), .int x1, .int x2, .int x3] (B G a C) (Rw G a (.int (-1)) C) := by
  refine Ct.of (own := RX7) (mn := "ofLoop") (L0 := [some (.ref (a + 105)), some (.int x1), some (.int x2), some (.int x3), none]) (by decide +kernel) rfl rfl rfl (Nat.le_of_ble_eq_true rfl) rfl ?_
  refine V_aload_n dX7_ofLoop_0 rfl ?_
  refine V_iload_n dX7_ofLoop_1 rfl ?_
  refine V_callVw dX7_ofLoop_2 kX7_92 ykX7_isLoop (by decide) rfl rfl (tX7_isLoop _ h33 (by omega)) rfl (Nat.le_of_ble_eq_true rfl) ⟨by decide, by decide, by decide, by decide⟩ ?_
  refine V_if_eq dX7_ofLoop_5 (fun _ => ?_) (fun z => absurd (bI_f hx) z)
  refine V_iconst (v := (-1)) dX7_ofLoop_31 (by decide) ?_
  refine V_iret dX7_ofLoop_32 rfl rfl rfl ?_
  exact Rw_i rfl rfl
set_option maxHeartbeats 4000000 in
theorem tX7_ofLoop_s {lc n len : Nat} (x2 x3 : Int32) (h33 : C 106 33 = nI lc) (hlc : lc ≤ 6) (hn : n < lc) (hl : C 106 (213 + 38 * n) = nI len) (hlen : len ≤ 12) (hx : ¬ isIx x2 len) : Ct G l yX7_ofLoop cX7_ofLoop 5 (some .int) 2 0 0 sz [.ref (a + 105), .int (nI n), .int x2, .int x3] (B G a C) (Rw G a (.int (-1)) C) := by
  refine Ct.of (own := RX7) (mn := "ofLoop") (L0 := [some (.ref (a + 105)), some (.int (nI n)), some (.int x2), some (.int x3), none]) (by decide +kernel) rfl rfl rfl (Nat.le_of_ble_eq_true rfl) rfl ?_
  refine V_aload_n dX7_ofLoop_0 rfl ?_
  refine V_iload_n dX7_ofLoop_1 rfl ?_
  refine V_callVw dX7_ofLoop_2 kX7_92 ykX7_isLoop (by decide) rfl rfl (tX7_isLoop _ h33 (by omega)) rfl (Nat.le_of_ble_eq_true rfl) ⟨by decide, by decide, by decide, by decide⟩ ?_
  refine V_if_eq dX7_ofLoop_5 (fun z => absurd z (bI_ne0.mpr (isIx_nI hn (by omega)))) (fun _ => ?_)
  refine V_iload_n dX7_ofLoop_8 rfl ?_
  refine V_iconst (v := 0) dX7_ofLoop_9 (by decide) ?_
  refine V_aload_n dX7_ofLoop_10 rfl ?_
  refine V_bget dX7_ofLoop_11 fX7_7 (by decide) rfl (by (try simp only [mset_s, mset_n, pk_us, pk_un, ne_eq, Nat.reduceEqDiff, Nat.reduceAdd, not_false_eq_true, not_true_eq_false]) <;> rfl) ?_
  refine V_sipush (v := 213) dX7_ofLoop_14 (by decide) ?_
  refine V_bipush (v := 38) dX7_ofLoop_17 (by decide) ?_
  refine V_iload_n dX7_ofLoop_19 rfl ?_
  refine V_imul dX7_ofLoop_20 ?_
  refine V_iadd dX7_ofLoop_21 ?_
  refine V_biald dX7_ofLoop_22 (by decide) rfl (by repeat (first | with_reducible rfl | with_reducible exact nlit | with_reducible apply nadd | with_reducible apply nmul | with_reducible apply nsub | with_reducible assumption | omega)) (by omega) (by first | decide | omega) (by (try simp only [mset_s, mset_n, pk_us, pk_un, ne_eq, Nat.reduceEqDiff, Nat.reduceAdd, not_false_eq_true, not_true_eq_false]) <;> rfl) ?_
  rw [hl]
  refine V_iconst (v := 1) dX7_ofLoop_23 (by decide) ?_
  refine V_isub dX7_ofLoop_24 ?_
  refine V_callSw dX7_ofLoop_25 kX7_37 ykX7_in (tX7_in _ _ _) rfl (Nat.le_of_ble_eq_true rfl) ⟨by decide, by decide, by decide, by decide⟩ ?_
  rw [inIx (by omega)]
  refine V_if_ne dX7_ofLoop_28 (fun z => absurd z (fun z => z (bI_f hx))) (fun _ => ?_)
  refine V_iconst (v := (-1)) dX7_ofLoop_31 (by decide) ?_
  refine V_iret dX7_ofLoop_32 rfl rfl rfl ?_
  exact Rw_i rfl rfl
set_option maxHeartbeats 4000000 in
theorem tX7_ofLoop {lc n len k : Nat} (x3 : Int32) (h33 : C 106 33 = nI lc) (hlc : lc ≤ 6) (hn : n < lc) (hl : C 106 (213 + 38 * n) = nI len) (hlen : len ≤ 12) (hk : k < len) : Ct G l yX7_ofLoop cX7_ofLoop 5 (some .int) 2 0 0 sz [.ref (a + 105), .int (nI n), .int (nI k), .int x3] (B G a C) (Rw G a (.int (if x3 = 0 then lvM (C 106) n k else if x3 = 1 then lnM (C 106) n k else if x3 = 2 then lsM (C 106) n k + 1000 else if x3 = 3 then lnM (C 106) n k + (C 106 (214 + 38 * n) - 1) * lsM (C 106) n k + 10000 else -2)) C) := by
  refine Ct.of (own := RX7) (mn := "ofLoop") (L0 := [some (.ref (a + 105)), some (.int (nI n)), some (.int (nI k)), some (.int x3), none]) (by decide +kernel) rfl rfl rfl (Nat.le_of_ble_eq_true rfl) rfl ?_
  refine V_aload_n dX7_ofLoop_0 rfl ?_
  refine V_iload_n dX7_ofLoop_1 rfl ?_
  refine V_callVw dX7_ofLoop_2 kX7_92 ykX7_isLoop (by decide) rfl rfl (tX7_isLoop _ h33 (by omega)) rfl (Nat.le_of_ble_eq_true rfl) ⟨by decide, by decide, by decide, by decide⟩ ?_
  refine V_if_eq dX7_ofLoop_5 (fun z => absurd z (bI_ne0.mpr (isIx_nI hn (by omega)))) (fun _ => ?_)
  refine V_iload_n dX7_ofLoop_8 rfl ?_
  refine V_iconst (v := 0) dX7_ofLoop_9 (by decide) ?_
  refine V_aload_n dX7_ofLoop_10 rfl ?_
  refine V_bget dX7_ofLoop_11 fX7_7 (by decide) rfl (by (try simp only [mset_s, mset_n, pk_us, pk_un, ne_eq, Nat.reduceEqDiff, Nat.reduceAdd, not_false_eq_true, not_true_eq_false]) <;> rfl) ?_
  refine V_sipush (v := 213) dX7_ofLoop_14 (by decide) ?_
  refine V_bipush (v := 38) dX7_ofLoop_17 (by decide) ?_
  refine V_iload_n dX7_ofLoop_19 rfl ?_
  refine V_imul dX7_ofLoop_20 ?_
  refine V_iadd dX7_ofLoop_21 ?_
  refine V_biald dX7_ofLoop_22 (by decide) rfl (by repeat (first | with_reducible rfl | with_reducible exact nlit | with_reducible apply nadd | with_reducible apply nmul | with_reducible apply nsub | with_reducible assumption | omega)) (by omega) (by first | decide | omega) (by (try simp only [mset_s, mset_n, pk_us, pk_un, ne_eq, Nat.reduceEqDiff, Nat.reduceAdd, not_false_eq_true, not_true_eq_false]) <;> rfl) ?_
  rw [hl]
  refine V_iconst (v := 1) dX7_ofLoop_23 (by decide) ?_
  refine V_isub dX7_ofLoop_24 ?_
  refine V_callSw dX7_ofLoop_25 kX7_37 ykX7_in (tX7_in _ _ _) rfl (Nat.le_of_ble_eq_true rfl) ⟨by decide, by decide, by decide, by decide⟩ ?_
  rw [inIx (by omega)]
  refine V_if_ne dX7_ofLoop_28 (fun _ => ?_) (fun z => absurd z ((bI_ne0.mpr (isIx_nI hk (by omega)))))
  refine V_sipush (v := 213) dX7_ofLoop_33 (by decide) ?_
  refine V_bipush (v := 38) dX7_ofLoop_36 (by decide) ?_
  refine V_iload_n dX7_ofLoop_38 rfl ?_
  refine V_imul dX7_ofLoop_39 ?_
  refine V_iadd dX7_ofLoop_40 ?_
  refine V_iconst (v := 2) dX7_ofLoop_41 (by decide) ?_
  refine V_iadd dX7_ofLoop_42 ?_
  refine V_iconst (v := 3) dX7_ofLoop_43 (by decide) ?_
  refine V_iload_n dX7_ofLoop_44 rfl ?_
  refine V_imul dX7_ofLoop_45 ?_
  refine V_iadd dX7_ofLoop_46 ?_
  rw [show (213 : Int32) + 38 * nI n + 2 + 3 * nI k = nI (213 + 38 * n + 2 + 3 * k) from nadd (nadd (nadd nlit (nmul nlit rfl)) nlit) (nmul nlit rfl)]
  refine V_istore dX7_ofLoop_47 (by decide) (by dsimp only [List.set] <;> rfl) ?_
  refine V_iload_n dX7_ofLoop_49 rfl ?_
  have hz : ∀ j j', j = j' → C 106 j = C 106 j' := fun _ _ e => by rw [e]
  by_cases h0 : x3 = 0
  · subst h0
    refine V_tIn (tg := 80) dX7_ofLoop_50 (by decide) (by decide) rfl rfl ?_
    refine V_aload_n dX7_ofLoop_80 rfl ?_
    refine V_bget dX7_ofLoop_81 fX7_7 (by decide) rfl (by (try simp only [mset_s, mset_n, pk_us, pk_un, ne_eq, Nat.reduceEqDiff, Nat.reduceAdd, not_false_eq_true, not_true_eq_false]) <;> rfl) ?_
    refine V_iload dX7_ofLoop_84 rfl ?_
    refine V_iload_n dX7_ofLoop_86 rfl ?_
    refine V_iadd dX7_ofLoop_87 ?_
    refine V_biald dX7_ofLoop_88 (by decide) rfl (by repeat (first | with_reducible rfl | with_reducible exact nlit | with_reducible apply nadd | with_reducible apply nmul | with_reducible apply nsub | with_reducible assumption | omega)) (by omega) (by first | decide | omega) (by (try simp only [mset_s, mset_n, pk_us, pk_un, ne_eq, Nat.reduceEqDiff, Nat.reduceAdd, not_false_eq_true, not_true_eq_false]) <;> rfl) ?_
    refine V_iret dX7_ofLoop_89 rfl rfl rfl ?_
    exact Rw_i (hz _ _ (by omega)) rfl
  by_cases h1 : x3 = 1
  · subst h1
    refine V_tIn (tg := 80) dX7_ofLoop_50 (by decide) (by decide) rfl rfl ?_
    refine V_aload_n dX7_ofLoop_80 rfl ?_
    refine V_bget dX7_ofLoop_81 fX7_7 (by decide) rfl (by (try simp only [mset_s, mset_n, pk_us, pk_un, ne_eq, Nat.reduceEqDiff, Nat.reduceAdd, not_false_eq_true, not_true_eq_false]) <;> rfl) ?_
    refine V_iload dX7_ofLoop_84 rfl ?_
    refine V_iload_n dX7_ofLoop_86 rfl ?_
    refine V_iadd dX7_ofLoop_87 ?_
    refine V_biald dX7_ofLoop_88 (by decide) rfl (by repeat (first | with_reducible rfl | with_reducible exact nlit | with_reducible apply nadd | with_reducible apply nmul | with_reducible apply nsub | with_reducible assumption | omega)) (by omega) (by first | decide | omega) (by (try simp only [mset_s, mset_n, pk_us, pk_un, ne_eq, Nat.reduceEqDiff, Nat.reduceAdd, not_false_eq_true, not_true_eq_false]) <;> rfl) ?_
    refine V_iret dX7_ofLoop_89 rfl rfl rfl ?_
    exact Rw_i (hz _ _ (by omega)) rfl
  by_cases h2 : x3 = 2
  · subst h2
    refine V_tIn (tg := 90) dX7_ofLoop_50 (by decide) (by decide) rfl rfl ?_
    refine V_aload_n dX7_ofLoop_90 rfl ?_
    refine V_bget dX7_ofLoop_91 fX7_7 (by decide) rfl (by (try simp only [mset_s, mset_n, pk_us, pk_un, ne_eq, Nat.reduceEqDiff, Nat.reduceAdd, not_false_eq_true, not_true_eq_false]) <;> rfl) ?_
    refine V_iload dX7_ofLoop_94 rfl ?_
    refine V_iconst (v := 2) dX7_ofLoop_96 (by decide) ?_
    refine V_iadd dX7_ofLoop_97 ?_
    refine V_biald dX7_ofLoop_98 (by decide) rfl (by repeat (first | with_reducible rfl | with_reducible exact nlit | with_reducible apply nadd | with_reducible apply nmul | with_reducible apply nsub | with_reducible assumption | omega)) (by omega) (by first | decide | omega) (by (try simp only [mset_s, mset_n, pk_us, pk_un, ne_eq, Nat.reduceEqDiff, Nat.reduceAdd, not_false_eq_true, not_true_eq_false]) <;> rfl) ?_
    refine V_sipush (v := 1000) dX7_ofLoop_99 (by decide) ?_
    refine V_iadd dX7_ofLoop_102 ?_
    refine V_iret dX7_ofLoop_103 rfl rfl rfl ?_
    refine Rw_i ?_ rfl
    show C 106 (213 + 38 * n + 2 + 3 * k + 2) + 1000 = lsM (C 106) n k + 1000
    rw [hz _ (213 + 38 * n + 4 + 3 * k) (by omega)]
    rfl
  by_cases h3 : x3 = 3
  · subst h3
    refine V_tIn (tg := 104) dX7_ofLoop_50 (by decide) (by decide) rfl rfl ?_
    refine V_aload_n dX7_ofLoop_104 rfl ?_
    refine V_bget dX7_ofLoop_105 fX7_7 (by decide) rfl (by (try simp only [mset_s, mset_n, pk_us, pk_un, ne_eq, Nat.reduceEqDiff, Nat.reduceAdd, not_false_eq_true, not_true_eq_false]) <;> rfl) ?_
    refine V_iload dX7_ofLoop_108 rfl ?_
    refine V_iconst (v := 1) dX7_ofLoop_110 (by decide) ?_
    refine V_iadd dX7_ofLoop_111 ?_
    refine V_biald dX7_ofLoop_112 (by decide) rfl (by repeat (first | with_reducible rfl | with_reducible exact nlit | with_reducible apply nadd | with_reducible apply nmul | with_reducible apply nsub | with_reducible assumption | omega)) (by omega) (by first | decide | omega) (by (try simp only [mset_s, mset_n, pk_us, pk_un, ne_eq, Nat.reduceEqDiff, Nat.reduceAdd, not_false_eq_true, not_true_eq_false]) <;> rfl) ?_
    refine V_aload_n dX7_ofLoop_113 rfl ?_
    refine V_bget dX7_ofLoop_114 fX7_7 (by decide) rfl (by (try simp only [mset_s, mset_n, pk_us, pk_un, ne_eq, Nat.reduceEqDiff, Nat.reduceAdd, not_false_eq_true, not_true_eq_false]) <;> rfl) ?_
    refine V_sipush (v := 213) dX7_ofLoop_117 (by decide) ?_
    refine V_bipush (v := 38) dX7_ofLoop_120 (by decide) ?_
    refine V_iload_n dX7_ofLoop_122 rfl ?_
    refine V_imul dX7_ofLoop_123 ?_
    refine V_iadd dX7_ofLoop_124 ?_
    refine V_iconst (v := 1) dX7_ofLoop_125 (by decide) ?_
    refine V_iadd dX7_ofLoop_126 ?_
    refine V_biald dX7_ofLoop_127 (by decide) rfl (by repeat (first | with_reducible rfl | with_reducible exact nlit | with_reducible apply nadd | with_reducible apply nmul | with_reducible apply nsub | with_reducible assumption | omega)) (by omega) (by first | decide | omega) (by (try simp only [mset_s, mset_n, pk_us, pk_un, ne_eq, Nat.reduceEqDiff, Nat.reduceAdd, not_false_eq_true, not_true_eq_false]) <;> rfl) ?_
    refine V_iconst (v := 1) dX7_ofLoop_128 (by decide) ?_
    refine V_isub dX7_ofLoop_129 ?_
    refine V_aload_n dX7_ofLoop_130 rfl ?_
    refine V_bget dX7_ofLoop_131 fX7_7 (by decide) rfl (by (try simp only [mset_s, mset_n, pk_us, pk_un, ne_eq, Nat.reduceEqDiff, Nat.reduceAdd, not_false_eq_true, not_true_eq_false]) <;> rfl) ?_
    refine V_iload dX7_ofLoop_134 rfl ?_
    refine V_iconst (v := 2) dX7_ofLoop_136 (by decide) ?_
    refine V_iadd dX7_ofLoop_137 ?_
    refine V_biald dX7_ofLoop_138 (by decide) rfl (by repeat (first | with_reducible rfl | with_reducible exact nlit | with_reducible apply nadd | with_reducible apply nmul | with_reducible apply nsub | with_reducible assumption | omega)) (by omega) (by first | decide | omega) (by (try simp only [mset_s, mset_n, pk_us, pk_un, ne_eq, Nat.reduceEqDiff, Nat.reduceAdd, not_false_eq_true, not_true_eq_false]) <;> rfl) ?_
    refine V_imul dX7_ofLoop_139 ?_
    refine V_iadd dX7_ofLoop_140 ?_
    refine V_sipush (v := 10000) dX7_ofLoop_141 (by decide) ?_
    refine V_iadd dX7_ofLoop_144 ?_
    refine V_iret dX7_ofLoop_145 rfl rfl rfl ?_
    refine Rw_i ?_ rfl
    show C 106 (213 + 38 * n + 2 + 3 * k + 1) + (C 106 (213 + 38 * n + 1) - 1) * C 106 (213 + 38 * n + 2 + 3 * k + 2) + 10000 = lnM (C 106) n k + (C 106 (214 + 38 * n) - 1) * lsM (C 106) n k + 10000
    rw [hz (213 + 38 * n + 2 + 3 * k + 2) (213 + 38 * n + 4 + 3 * k) (by omega), hz (213 + 38 * n + 2 + 3 * k + 1) (213 + 38 * n + 3 + 3 * k) (by omega), hz (213 + 38 * n + 1) (214 + 38 * n) (by omega)]
    rfl
  refine V_tOut (tg := 146) dX7_ofLoop_50 ?_ rfl ?_
  · by_cases hh : x3.toInt < 0
    · exact Or.inl hh
    · refine Or.inr ?_
      have e := nI_ex (x := x3) (by omega)
      by_cases h5 : x3.toInt.toNat < 4
      · exfalso
        rcases (show x3.toInt.toNat = 0 ∨ x3.toInt.toNat = 1 ∨ x3.toInt.toNat = 2 ∨ x3.toInt.toNat = 3 by omega) with z | z | z | z <;> rw [z] at e
        · exact h0 e
        · exact h1 e
        · exact h2 e
        · exact h3 e
      · omega
  refine V_bipush (v := (-2)) dX7_ofLoop_146 (by decide) ?_
  refine V_iret dX7_ofLoop_148 rfl rfl rfl ?_
  exact Rw_i (by rw [if_neg h0, if_neg h1, if_neg h2, if_neg h3]) rfl
end MODEL
