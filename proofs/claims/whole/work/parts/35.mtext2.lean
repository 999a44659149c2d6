/-! TryLoopsModel: readStep, readItem. -/
/-- what reading a step leaves -/
def mTS (C : CT) (s : Nat) (v n t : Nat → Int32) (r : Option TS × Nat) : CT := match r.1 with
  | none => mTX C s r.2 v n t
  | some st => mTX C (s + 1) r.2 (upd v s (nI st.1)) (upd n s (nI st.2.1)) (upd t s st.2.2)
theorem mSp_TX {C : CT} {s p q : Nat} {v n t : Nat → Int32} : mSp (mTX C s p v n t) q = mTX C s q v n t := mTX_p
theorem chM_TX {C : CT} {s p m : Nat} {v n t : Nat → Int32} : chM (mTX C s p v n t) m = chM C m := rfl
section MODEL
variable {G : GT} {l : Launch} {sz a : Nat} {C : CT}
set_option maxHeartbeats 4000000 in
theorem tX7_readStep {n p s : Nat} {vv nn tt : Nat → Int32} (hs : Bool) (hn : C 105 2 = nI n) (hn60 : n ≤ 60) (hp : p ≤ n) (hs20 : s < 20) : Ct G l yX7_readStep cX7_readStep 6 (some .boolean) 3 0 0 sz [.ref (a + 105), .int (bI (hs = true))] (B G a (mTX C s p vv nn tt)) (Rw G a (.int (bI ((pStp (chM C n) hs p).1 ≠ none))) (mTS C s vv nn tt (pStp (chM C n) hs p))) := by
  have c0 : ∀ j, n ≤ j → chM C n j = 0 := chF_0
  have h2 : ∀ {s p : Nat} {vv nn tt : Nat → Int32}, mTX C s p vv nn tt 105 2 = nI n := hn
  have h4 : ∀ {s p : Nat} {vv nn tt : Nat → Int32}, mTX C s p vv nn tt 105 4 = nI p := rfl
  have h3 : ∀ {s p : Nat} {vv nn tt : Nat → Int32}, mTX C s p vv nn tt 105 3 = nI s := rfl
  obtain ⟨res, hres⟩ : ∃ r, r = pStp (chM C n) hs p := ⟨_, rfl⟩
  rw [← hres]
  refine Ct.of (own := RX7) (mn := "readStep") (L0 := [some (.ref (a + 105)), some (.int (bI (hs = true))), none, none, none, none]) (by decide +kernel) rfl rfl rfl (Nat.le_of_ble_eq_true rfl) rfl ?_
  have bad : ∀ (pc1 : Nat) (q : Nat), res = (none, q) → Rw G a (.int (bI (res.1 ≠ none))) (mTS C s vv nn tt res) (some (.int 0)) (B G a (mTX C s q vv nn tt)) := by
    intro _ q hr
    rw [hr]
    exact Rw_i (bI_f (fun z => z rfl)).symm rfl
  have noV : ∀ (L2 : List (Option Value)), vB (chM C n p) = none → res = (none, p) := by
    intro _ h
    rw [hres]
    unfold pStp
    rw [h]
  have afterV : ∀ (w : Int32), w = oN (vB (chM C n p)) → V G l RX7 "readStep" cX7_readStep 6 (some .boolean) (rmd 3 0 0) E0 (Qm G (Rw G a (.int (bI (res.1 ≠ none))) (mTS C s vv nn tt res)) sz 0 0) sz 0 0 28 [some (.ref (a + 105)), some (.int (bI (hs = true))), none, none, none, none] [.int w] (B G a (mTX C s p vv nn tt)) := by
    intro w hw
    refine V_istore_n dX7_readStep_28 (by decide) (by dsimp only [List.set] <;> rfl) ?_
    refine V_iload_n dX7_readStep_29 rfl ?_
    refine V_bipush (v := (-5)) dX7_readStep_30 (by decide) ?_
    cases hv : vB (chM C n p) with
    | none =>
      rw [hv] at hw
      refine V_icmp_ne dX7_readStep_32 (fun z => absurd z (fun z => z hw)) (fun _ => ?_)
      refine V_iconst (v := 0) dX7_readStep_35 (by decide) ?_
      refine V_zret dX7_readStep_36 rfl (by first | rfl | exact bI_nar) rfl rfl ?_
      exact bad 0 p (noV [] hv)
    | some v =>
      rw [hv] at hw
      obtain ⟨hv5, hv0⟩ := vB_lt hv
      have hpn := vB_none c0 hv0
      obtain rfl : w = nI v := hw
      have hne : ∀ x : Nat, x ≤ 99 → ¬ nI x = -5 := fun x hx z => by
        have := congrArg Int32.toInt z
        rw [nI_toInt (by omega)] at this
        have e : (-5 : Int32).toInt = -5 := rfl
        omega
      refine V_icmp_ne dX7_readStep_32 (fun _ => ?_) (fun z => absurd z ((hne v (by omega))))
      refine V_aload_n dX7_readStep_37 rfl ?_
      refine V_dup dX7_readStep_38 rfl ?_
      refine V_bget dX7_readStep_39 fX7_115 (by decide) rfl (by (try simp only [mset_s, mset_n, pk_us, pk_un, ne_eq, Nat.reduceEqDiff, Nat.reduceAdd, not_false_eq_true, not_true_eq_false]) <;> rfl) ?_
      rw [h4]
      refine V_iconst (v := 1) dX7_readStep_42 (by decide) ?_
      refine V_iadd dX7_readStep_43 ?_
      rw [show nI p + 1 = nI (p + 1) from nI_1 p]
      refine V_bputi (i0 := 4) dX7_readStep_44 fX7_115 (by decide) rfl rfl rfl (Nat.le_of_ble_eq_true rfl) rfl ?_
      rw [mTX_p]
      refine V_aload_n dX7_readStep_47 rfl ?_
      refine V_iconst (v := 0) dX7_readStep_48 (by decide) ?_
      refine V_iload_n dX7_readStep_49 rfl ?_
      refine V_callSw dX7_readStep_50 kX7_56 ykX7_greatest (tX7_greatest _) rfl (Nat.le_of_ble_eq_true rfl) ⟨by decide, by decide, by decide, by decide⟩ ?_
      rw [gN_gM hv5]
      have hg := gM_9 (v := v)
      have hgc : gM v = 29 ∨ gM v = 99 := by unfold gM; split <;> simp
      refine V_callVw dX7_readStep_53 kX7_124 ykX7_number (by decide) rfl rfl (tX7_number (C := mTX C s (p + 1) vv nn tt) (lo := 0) (by omega) hgc h2 hn60 h4 (by omega)) rfl (Nat.le_of_ble_eq_true rfl) ⟨by decide, by decide, by decide, by decide⟩ ?_
      rw [chM_TX, mSp_TX]
      have hr : res = match pNum (chM C n) 0 (gM v) (p + 1) with
        | (none, p1) => (none, p1)
        | (some x, p1) =>
          if hs = true ∧ (chM C n p1 = 43 ∨ chM C n p1 = 45) then
            match pNum (chM C n) 1 99 (p1 + 1) with
            | (none, p2) => (none, p2)
            | (some y, p2) => (some (v, x, if chM C n p1 = 43 then nI y else -nI y), p2)
          else (some (v, x, 0), p1) := by
        rw [hres]
        unfold pStp
        rw [hv]
        rfl
      have l1 := pNum_le (lo := 0) (hi := gM v) c0 (show p + 1 ≤ n by omega)
      have l1x : ∀ x, (pNum (chM C n) 0 (gM v) (p + 1)).1 = some x → x ≤ gM v ∧ (0 = 0 ∨ 0 < x) := fun x => pNum_hi hg.1
      generalize pNum (chM C n) 0 (gM v) (p + 1) = r1 at hr l1 l1x
      obtain ⟨x1, p1⟩ := r1
      simp only at hr l1 l1x
      refine V_istore_n dX7_readStep_56 (by decide) (by dsimp only [List.set] <;> rfl) ?_
      refine V_iload_n dX7_readStep_57 rfl ?_
      refine V_bipush (v := (-5)) dX7_readStep_58 (by decide) ?_
      cases x1 with
      | none =>
        refine V_icmp_ne dX7_readStep_60 (fun z => absurd z (fun z => z rfl)) (fun _ => ?_)
        refine V_iconst (v := 0) dX7_readStep_63 (by decide) ?_
        refine V_zret dX7_readStep_64 rfl (by first | rfl | exact bI_nar) rfl rfl ?_
        exact bad 0 p1 hr
      | some x1 =>
        have hx1 := (l1x x1 rfl).1
        simp only at hr
        refine V_icmp_ne dX7_readStep_60 (fun _ => ?_) (fun z => absurd z ((hne x1 (by omega))))
        refine V_iconst (v := 0) dX7_readStep_65 (by decide) ?_
        refine V_istore dX7_readStep_66 (by decide) (by dsimp only [List.set] <;> rfl) ?_
        have fin : ∀ (q : Nat) (t : Int32) (L5 : Option Value), res = (some (v, x1, t), q) → V G l RX7 "readStep" cX7_readStep 6 (some .boolean) (rmd 3 0 0) E0 (Qm G (Rw G a (.int (bI (res.1 ≠ none))) (mTS C s vv nn tt res)) sz 0 0) sz 0 0 154 [some (.ref (a + 105)), some (.int (bI (hs = true))), some (.int (nI v)), some (.int (nI x1)), some (.int t), L5] [] (B G a (mTX C s q vv nn tt)) := by
          intro q t L5 hq
          refine V_aload_n dX7_readStep_154 rfl ?_
          refine V_bget dX7_readStep_155 fX7_25 (by decide) rfl (by (try simp only [mset_s, mset_n, pk_us, pk_un, ne_eq, Nat.reduceEqDiff, Nat.reduceAdd, not_false_eq_true, not_true_eq_false]) <;> rfl) ?_
          refine V_aload_n dX7_readStep_158 rfl ?_
          refine V_bget dX7_readStep_159 fX7_95 (by decide) rfl (by (try simp only [mset_s, mset_n, pk_us, pk_un, ne_eq, Nat.reduceEqDiff, Nat.reduceAdd, not_false_eq_true, not_true_eq_false]) <;> rfl) ?_
          rw [h3]
          refine V_iload_n dX7_readStep_162 rfl ?_
          refine V_biast dX7_readStep_163 (by decide) (fun _ => rfl) (by repeat (first | with_reducible rfl | with_reducible exact nlit | with_reducible apply nadd | with_reducible apply nmul | with_reducible apply nsub | with_reducible assumption | omega)) (by omega) (by first | decide | omega) ?_
          rw [mTX_v]
          refine V_aload_n dX7_readStep_164 rfl ?_
          refine V_bget dX7_readStep_165 fX7_28 (by decide) rfl (by (try simp only [mset_s, mset_n, pk_us, pk_un, ne_eq, Nat.reduceEqDiff, Nat.reduceAdd, not_false_eq_true, not_true_eq_false]) <;> rfl) ?_
          refine V_aload_n dX7_readStep_168 rfl ?_
          refine V_bget dX7_readStep_169 fX7_95 (by decide) rfl (by (try simp only [mset_s, mset_n, pk_us, pk_un, ne_eq, Nat.reduceEqDiff, Nat.reduceAdd, not_false_eq_true, not_true_eq_false]) <;> rfl) ?_
          rw [h3]
          refine V_iload_n dX7_readStep_172 rfl ?_
          refine V_biast dX7_readStep_173 (by decide) (fun _ => rfl) (by repeat (first | with_reducible rfl | with_reducible exact nlit | with_reducible apply nadd | with_reducible apply nmul | with_reducible apply nsub | with_reducible assumption | omega)) (by omega) (by first | decide | omega) ?_
          rw [mTX_n]
          refine V_aload_n dX7_readStep_174 rfl ?_
          refine V_bget dX7_readStep_175 fX7_31 (by decide) rfl (by (try simp only [mset_s, mset_n, pk_us, pk_un, ne_eq, Nat.reduceEqDiff, Nat.reduceAdd, not_false_eq_true, not_true_eq_false]) <;> rfl) ?_
          refine V_aload_n dX7_readStep_178 rfl ?_
          refine V_bget dX7_readStep_179 fX7_95 (by decide) rfl (by (try simp only [mset_s, mset_n, pk_us, pk_un, ne_eq, Nat.reduceEqDiff, Nat.reduceAdd, not_false_eq_true, not_true_eq_false]) <;> rfl) ?_
          rw [h3]
          refine V_iload dX7_readStep_182 rfl ?_
          refine V_biast dX7_readStep_184 (by decide) (fun _ => rfl) (by repeat (first | with_reducible rfl | with_reducible exact nlit | with_reducible apply nadd | with_reducible apply nmul | with_reducible apply nsub | with_reducible assumption | omega)) (by omega) (by first | decide | omega) ?_
          rw [mTX_t]
          refine V_aload_n dX7_readStep_185 rfl ?_
          refine V_dup dX7_readStep_186 rfl ?_
          refine V_bget dX7_readStep_187 fX7_95 (by decide) rfl (by (try simp only [mset_s, mset_n, pk_us, pk_un, ne_eq, Nat.reduceEqDiff, Nat.reduceAdd, not_false_eq_true, not_true_eq_false]) <;> rfl) ?_
          rw [h3]
          refine V_iconst (v := 1) dX7_readStep_190 (by decide) ?_
          refine V_iadd dX7_readStep_191 ?_
          rw [show nI s + 1 = nI (s + 1) from nI_1 s]
          refine V_bputi (i0 := 3) dX7_readStep_192 fX7_95 (by decide) rfl rfl rfl (Nat.le_of_ble_eq_true rfl) rfl ?_
          rw [mTX_s]
          refine V_iconst (v := 1) dX7_readStep_195 (by decide) ?_
          refine V_zret dX7_readStep_196 rfl (by first | rfl | exact bI_nar) rfl rfl ?_
          rw [hq]
          exact Rw_i (bI_t (by simp)).symm rfl
        refine V_iload_n dX7_readStep_68 rfl ?_
        cases hs with
        | false =>
          rw [if_neg (fun z => absurd z.1 (by decide))] at hr
          refine V_if_eq dX7_readStep_69 (fun _ => ?_) (fun z => absurd (bI_f (by decide)) z)
          exact fin p1 0 _ hr
        | true =>
          refine V_if_eq dX7_readStep_69 (fun z => absurd z (bI_ne0.mpr rfl)) (fun _ => ?_)
          refine V_aload_n dX7_readStep_72 rfl ?_
          refine V_bipush (v := 43) dX7_readStep_73 (by decide) ?_
          refine V_bipush (v := 43) dX7_readStep_75 (by decide) ?_
          refine V_callVw dX7_readStep_77 kX7_118 ykX7_sees (by decide) rfl rfl (tX7_sees (C := mTX C s p1 vv nn tt) 43 43 (by decide) h2 hn60 h4 (by omega)) rfl (Nat.le_of_ble_eq_true rfl) ⟨by decide, by decide, by decide, by decide⟩ ?_
          rw [chM_TX]
          have is43 : (43 ≤ chM C n p1 ∧ chM C n p1 ≤ 43) ↔ chM C n p1 = 43 := ⟨fun z => by rw [i_le, i_le] at z; rw [i_eq]; omega, fun z => by rw [z]; decide⟩
          have is45 : (45 ≤ chM C n p1 ∧ chM C n p1 ≤ 45) ↔ chM C n p1 = 45 := ⟨fun z => by rw [i_le, i_le] at z; rw [i_eq]; omega, fun z => by rw [z]; decide⟩
          have sgn : (chM C n p1 = 43 ∨ chM C n p1 = 45) → V G l RX7 "readStep" cX7_readStep 6 (some .boolean) (rmd 3 0 0) E0 (Qm G (Rw G a (.int (bI (res.1 ≠ none))) (mTS C s vv nn tt res)) sz 0 0) sz 0 0 94 [some (.ref (a + 105)), some (.int (bI (true = true))), some (.int (nI v)), some (.int (nI x1)), some (.int 0), none] [] (B G a (mTX C s p1 vv nn tt)) := by
            intro hc
            rw [if_pos ⟨rfl, hc⟩] at hr
            have hp1 : p1 < n := vB_none c0 (by rcases hc with z | z <;> (rw [z]; decide))
            have num : ∀ (sg : Int32), sg = (if chM C n p1 = 43 then 1 else -1) → V G l RX7 "readStep" cX7_readStep 6 (some .boolean) (rmd 3 0 0) E0 (Qm G (Rw G a (.int (bI (res.1 ≠ none))) (mTS C s vv nn tt res)) sz 0 0) sz 0 0 129 [some (.ref (a + 105)), some (.int (bI (true = true))), some (.int (nI v)), some (.int (nI x1)), some (.int 0), some (.int sg)] [] (B G a (mTX C s (p1 + 1) vv nn tt)) := by
              intro sg hsg
              refine V_aload_n dX7_readStep_129 rfl ?_
              refine V_iconst (v := 1) dX7_readStep_130 (by decide) ?_
              refine V_bipush (v := 99) dX7_readStep_131 (by decide) ?_
              refine V_callVw dX7_readStep_133 kX7_124 ykX7_number (by decide) rfl rfl (tX7_number (C := mTX C s (p1 + 1) vv nn tt) (lo := 1) (hi := 99) (by omega) (by omega) h2 hn60 h4 (by omega)) rfl (Nat.le_of_ble_eq_true rfl) ⟨by decide, by decide, by decide, by decide⟩ ?_
              rw [chM_TX, mSp_TX]
              have l2x : ∀ x, (pNum (chM C n) 1 99 (p1 + 1)).1 = some x → x ≤ 99 ∧ (1 = 0 ∨ 0 < x) := fun x => pNum_hi (by decide)
              generalize pNum (chM C n) 1 99 (p1 + 1) = r2 at hr l2x
              obtain ⟨x2, p2⟩ := r2
              simp only at hr l2x
              refine V_istore dX7_readStep_136 (by decide) (by dsimp only [List.set] <;> rfl) ?_
              refine V_iload dX7_readStep_138 rfl ?_
              refine V_bipush (v := (-5)) dX7_readStep_140 (by decide) ?_
              cases x2 with
              | none =>
                refine V_icmp_ne dX7_readStep_142 (fun z => absurd z (fun z => z rfl)) (fun _ => ?_)
                refine V_iconst (v := 0) dX7_readStep_145 (by decide) ?_
                refine V_zret dX7_readStep_146 rfl (by first | rfl | exact bI_nar) rfl rfl ?_
                exact bad 0 p2 hr
              | some x2 =>
                have hx2 := (l2x x2 rfl).1
                simp only at hr
                refine V_icmp_ne dX7_readStep_142 (fun _ => ?_) (fun z => absurd z ((hne x2 (by omega))))
                refine V_iload dX7_readStep_147 rfl ?_
                refine V_iload dX7_readStep_149 rfl ?_
                refine V_imul dX7_readStep_151 ?_
                refine V_istore dX7_readStep_152 (by decide) (by dsimp only [List.set] <;> rfl) ?_
                refine fin p2 _ _ ?_
                rw [hr, hsg]
                by_cases hq : chM C n p1 = 43
                · rw [if_pos hq, if_pos hq, Int32.mul_one]
                · rw [if_neg hq, if_neg hq, Int32.mul_neg, Int32.mul_one]
            refine V_aload_n dX7_readStep_94 rfl ?_
            refine V_bipush (v := 43) dX7_readStep_95 (by decide) ?_
            refine V_callVw dX7_readStep_97 kX7_127 ykX7_takes (by decide) rfl rfl (tX7_takes (C := mTX C s p1 vv nn tt) 43 (by decide) h2 hn60 h4 (by omega)) rfl (Nat.le_of_ble_eq_true rfl) ⟨by decide, by decide, by decide, by decide⟩ ?_
            rw [chM_TX, mSp_TX]
            by_cases hq : chM C n p1 = 43
            · have nn1 := num 1 (by rw [if_pos hq])
              rw [if_pos hq]
              refine V_if_eq dX7_readStep_100 (fun z => absurd z (bI_ne0.mpr hq)) (fun _ => ?_)
              refine V_iconst (v := 1) dX7_readStep_103 (by decide) ?_
              refine V_goto dX7_readStep_104 ?_
              refine V_istore dX7_readStep_108 (by decide) (by dsimp only [List.set] <;> rfl) ?_
              refine V_aload_n dX7_readStep_110 rfl ?_
              refine V_dup dX7_readStep_111 rfl ?_
              refine V_bget dX7_readStep_112 fX7_115 (by decide) rfl (by (try simp only [mset_s, mset_n, pk_us, pk_un, ne_eq, Nat.reduceEqDiff, Nat.reduceAdd, not_false_eq_true, not_true_eq_false]) <;> rfl) ?_
              rw [h4]
              refine V_iload dX7_readStep_115 rfl ?_
              refine V_if_ge dX7_readStep_117 (fun _ => ?_) (fun z => absurd (by decide) z)
              refine V_iconst (v := 0) dX7_readStep_124 (by decide) ?_
              refine V_iadd dX7_readStep_125 ?_
              rw [i_add0]
              refine V_bputi (i0 := 4) dX7_readStep_126 fX7_115 (by decide) rfl rfl rfl (Nat.le_of_ble_eq_true rfl) rfl ?_
              rw [mTX_p]
              exact nn1
            · have nn1 := num (-1) (by rw [if_neg hq])
              rw [if_neg hq]
              refine V_if_eq dX7_readStep_100 (fun _ => ?_) (fun z => absurd (bI_f hq) z)
              refine V_iconst (v := (-1)) dX7_readStep_107 (by decide) ?_
              refine V_istore dX7_readStep_108 (by decide) (by dsimp only [List.set] <;> rfl) ?_
              refine V_aload_n dX7_readStep_110 rfl ?_
              refine V_dup dX7_readStep_111 rfl ?_
              refine V_bget dX7_readStep_112 fX7_115 (by decide) rfl (by (try simp only [mset_s, mset_n, pk_us, pk_un, ne_eq, Nat.reduceEqDiff, Nat.reduceAdd, not_false_eq_true, not_true_eq_false]) <;> rfl) ?_
              rw [h4]
              refine V_iload dX7_readStep_115 rfl ?_
              refine V_if_ge dX7_readStep_117 (fun z => absurd z (by decide)) (fun _ => ?_)
              refine V_iconst (v := 1) dX7_readStep_120 (by decide) ?_
              refine V_goto dX7_readStep_121 ?_
              refine V_iadd dX7_readStep_125 ?_
              rw [show nI p1 + 1 = nI (p1 + 1) from nI_1 p1]
              refine V_bputi (i0 := 4) dX7_readStep_126 fX7_115 (by decide) rfl rfl rfl (Nat.le_of_ble_eq_true rfl) rfl ?_
              rw [mTX_p]
              exact nn1
          by_cases hq : chM C n p1 = 43
          · refine V_if_ne dX7_readStep_80 (fun _ => ?_) (fun z => absurd z ((bI_ne0.mpr (is43.mpr hq))))
            exact sgn (Or.inl hq)
          · refine V_if_ne dX7_readStep_80 (fun z => absurd z (fun z => z (bI_f (fun z => hq (is43.mp z))))) (fun _ => ?_)
            refine V_aload_n dX7_readStep_83 rfl ?_
            refine V_bipush (v := 45) dX7_readStep_84 (by decide) ?_
            refine V_bipush (v := 45) dX7_readStep_86 (by decide) ?_
            refine V_callVw dX7_readStep_88 kX7_118 ykX7_sees (by decide) rfl rfl (tX7_sees (C := mTX C s p1 vv nn tt) 45 45 (by decide) h2 hn60 h4 (by omega)) rfl (Nat.le_of_ble_eq_true rfl) ⟨by decide, by decide, by decide, by decide⟩ ?_
            rw [chM_TX]
            by_cases hq2 : chM C n p1 = 45
            · refine V_if_eq dX7_readStep_91 (fun z => absurd z (bI_ne0.mpr (is45.mpr hq2))) (fun _ => ?_)
              exact sgn (Or.inr hq2)
            · refine V_if_eq dX7_readStep_91 (fun _ => ?_) (fun z => absurd (bI_f (fun z => hq2 (is45.mp z))) z)
              rw [if_neg (fun z => z.2.elim hq hq2)] at hr
              exact fin p1 0 _ hr
  refine V_aload_n dX7_readStep_0 rfl ?_
  refine V_bget dX7_readStep_1 fX7_115 (by decide) rfl (by (try simp only [mset_s, mset_n, pk_us, pk_un, ne_eq, Nat.reduceEqDiff, Nat.reduceAdd, not_false_eq_true, not_true_eq_false]) <;> rfl) ?_
  rw [h4]
  refine V_aload_n dX7_readStep_4 rfl ?_
  refine V_bget dX7_readStep_5 fX7_112 (by decide) rfl (by (try simp only [mset_s, mset_n, pk_us, pk_un, ne_eq, Nat.reduceEqDiff, Nat.reduceAdd, not_false_eq_true, not_true_eq_false]) <;> rfl) ?_
  rw [h2]
  rcases Nat.lt_or_ge p n with q | q
  · have e : chM C n p = C 110 p := by unfold chM chF; rw [if_pos q]
    refine V_icmp_ge dX7_readStep_8 (fun z => absurd z (fun z => absurd ((cle (by repeat (first | with_reducible rfl | with_reducible exact nlit | with_reducible apply nadd | with_reducible apply nmul | with_reducible apply nsub | with_reducible assumption | omega)) (by repeat (first | with_reducible rfl | with_reducible exact nlit | with_reducible apply nadd | with_reducible apply nmul | with_reducible apply nsub | with_reducible assumption | omega)) (by omega) (by omega)).mp z) (by omega))) (fun _ => ?_)
    refine V_aload_n dX7_readStep_11 rfl ?_
    refine V_bget dX7_readStep_12 fX7_22 (by decide) rfl (by (try simp only [mset_s, mset_n, pk_us, pk_un, ne_eq, Nat.reduceEqDiff, Nat.reduceAdd, not_false_eq_true, not_true_eq_false]) <;> rfl) ?_
    refine V_aload_n dX7_readStep_15 rfl ?_
    refine V_bget dX7_readStep_16 fX7_115 (by decide) rfl (by (try simp only [mset_s, mset_n, pk_us, pk_un, ne_eq, Nat.reduceEqDiff, Nat.reduceAdd, not_false_eq_true, not_true_eq_false]) <;> rfl) ?_
    rw [h4]
    refine V_biald dX7_readStep_19 (by decide) rfl (by repeat (first | with_reducible rfl | with_reducible exact nlit | with_reducible apply nadd | with_reducible apply nmul | with_reducible apply nsub | with_reducible assumption | omega)) (by omega) (by first | decide | omega) (by (try simp only [mset_s, mset_n, pk_us, pk_un, ne_eq, Nat.reduceEqDiff, Nat.reduceAdd, not_false_eq_true, not_true_eq_false]) <;> rfl) ?_
    rw [show mTX C s p vv nn tt 110 p = C 110 p from rfl, ← e]
    refine V_callSw dX7_readStep_20 kX7_121 ykX7_verbBy (tX7_verbBy _) rfl (Nat.le_of_ble_eq_true rfl) ⟨by decide, by decide, by decide, by decide⟩ ?_
    refine V_goto dX7_readStep_23 ?_
    exact afterV _ rfl
  · have e : chM C n p = 0 := c0 p q
    refine V_icmp_ge dX7_readStep_8 (fun _ => ?_) (fun z => absurd ((cle (by repeat (first | with_reducible rfl | with_reducible exact nlit | with_reducible apply nadd | with_reducible apply nmul | with_reducible apply nsub | with_reducible assumption | omega)) (by repeat (first | with_reducible rfl | with_reducible exact nlit | with_reducible apply nadd | with_reducible apply nmul | with_reducible apply nsub | with_reducible assumption | omega)) (by omega) (by omega)).mpr (by omega)) z)
    refine V_bipush (v := (-5)) dX7_readStep_26 (by decide) ?_
    exact afterV _ (by rw [e]; rfl)
end MODEL
