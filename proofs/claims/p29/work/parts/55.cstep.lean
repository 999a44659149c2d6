/-! Text: readStep. -/
/-- behind a step that was read into row t at s, or not read -/
def rsC (C : CT) (t s : Nat) (r : Option TS × Nat) : CT := match r.1 with
  | none => aP C r.2
  | some y => apS (aP C r.2) 95 20 t s (nI y.1) (nI y.2.1) y.2.2
theorem vB_5 {c : Int32} {v : Nat} (h : vB c = some v) : v ≤ 5 := by
  unfold vB at h
  split at h
  · cases h; decide
  split at h
  · cases h; decide
  split at h
  · cases h; decide
  split at h
  · cases h; decide
  split at h
  · cases h; decide
  split at h
  · cases h; decide
  · cases h
theorem chOK_aP {C : CT} {p : Nat} (h : chOK C) : chOK (aP C p) := fun j => by rw [aP_n (by decide)]; exact h j
section CLS
variable {G : GT} {l : Launch} {sz a : Nat} {C : CT}
set_option maxHeartbeats 4000000 in
theorem tX5_readStep {n p t s : Nat} {res : Option TS × Nat} (hs : Bool) (hres : res = pStp (chC C n) hs p) (hch : chOK C) (hn : C 93 0 = nI n) (hn60 : n ≤ 60) (hp : C 93 1 = nI p) (hpn : p ≤ n) (ht : C 95 0 = nI t) (ht20 : t < 20) (hsz : C 99 t = nI s) (hs20 : s < 20) : Ct G l yX5_readStep cX5_readStep 7 (some .boolean) 4 0 0 sz [.ref (a + 93), .int (bI (hs = true))] (B G a C) (Rw G a (.int (bI (res.1 ≠ none))) (rsC C t s res)) := by
  have c0 : ∀ j, n ≤ j → chC C n j = 0 := chF_0
  have bad : ∀ (q : Nat), res = (none, q) → Rw G a (.int (bI (res.1 ≠ none))) (rsC C t s res) (some (.int 0)) (B G a (aP C q)) := by
    intro q hr
    rw [hr]
    exact ⟨rfl, rfl⟩
  refine Ct.of (own := RX5) (mn := "readStep") (L0 := [some (.ref (a + 93)), some (.int (bI (hs = true))), none, none, none, none, none]) (by decide +kernel) rfl rfl rfl (Nat.le_of_ble_eq_true rfl) rfl ?_
  refine V_ldcS dX5_readStep_0 rfl ?_
  refine V_aload_n dX5_readStep_2 rfl ?_
  refine V_callVw dX5_readStep_3 kX5_45 ykX5_next (by decide) rfl rfl (tX5_next hch hn hn60 hp (by omega)) rfl (Nat.le_of_ble_eq_true rfl) ⟨by decide, by decide, by decide, by decide⟩ ?_
  refine V_callT dX5_readStep_6 kX5_70 ykJ0_indexOf_0f7a4 rfl (tJ0_indexOf _) rfl (Nat.le_of_ble_eq_true rfl) ⟨by decide, by decide, by decide, by decide⟩ ?_
  refine V_istore_n dX5_readStep_9 (by decide) (by dsimp only [List.set] <;> rfl) rfl ?_
  refine V_iload_n dX5_readStep_10 rfl ?_
  cases hv : vB (chC C n p) with
  | none =>
    rw [show vbR (chC C n p) = -1 from by unfold vbR; rw [hv]]
    refine V_if_ge dX5_readStep_11 (fun z => absurd z (by decide)) (fun _ => ?_)
    refine V_iconst (v := 0) dX5_readStep_14 (by decide) ?_
    refine V_zret dX5_readStep_15 rfl (by first | rfl | exact bI_nar) rfl rfl ?_
    have hr : res = (none, p) := by rw [hres]; unfold pStp; rw [hv]
    have := bad p hr
    rw [aP_id hp] at this
    exact this
  | some v =>
    have hv5 := vB_5 hv
    have hvn := vB_none c0 (show chC C n p ≠ 0 by intro z; rw [z] at hv; cases hv)
    have hr : res = match pNum (chC C n) 0 (gM v) (p + 1) with
        | (none, p1) => (none, p1)
        | (some x, p1) =>
          if hs = true ∧ (chC C n p1 = 43 ∨ chC C n p1 = 45) then
            match pNum (chC C n) 1 99 (p1 + 1) with
            | (none, p2) => (none, p2)
            | (some y, p2) => (some (v, x, if chC C n p1 = 43 then nI y else -nI y), p2)
          else (some (v, x, 0), p1) := by
      rw [hres]
      unfold pStp
      rw [hv]
      rfl
    have hg99 : gM v ≤ 99 := gM_9.2
    rw [show vbR (chC C n p) = nI v from by unfold vbR; rw [hv]]
    refine V_if_ge dX5_readStep_11 (fun _ => ?_) (fun z => absurd (by rw [i_le]; rw [nI_toInt (by omega)]; have : (0 : Int32).toInt = 0 := rfl; omega) z)
    refine V_aload_n dX5_readStep_16 rfl ?_
    refine V_dup dX5_readStep_17 rfl ?_
    refine V_bget dX5_readStep_18 fX5_28 (by decide) rfl (by (try simp only [mset_s, mset_n, pk_us, pk_un, ne_eq, Nat.reduceEqDiff, Nat.reduceAdd, not_false_eq_true, not_true_eq_false]) <;> rfl) ?_
    rw [hp]
    refine V_iconst (v := 1) dX5_readStep_21 (by decide) ?_
    refine V_iadd dX5_readStep_22 ?_
    refine V_bputi (i0 := 1) dX5_readStep_23 fX5_28 (by decide) rfl rfl rfl (Nat.le_of_ble_eq_true rfl) rfl ?_
    rw [show mset C 93 (upd (C 93) 1 (nI p + 1)) = aP C (p + 1) from by unfold aP; rw [show nI p + 1 = nI (p + 1) from nI_1 p]]
    refine V_aload_n dX5_readStep_26 rfl ?_
    refine V_iconst (v := 0) dX5_readStep_27 (by decide) ?_
    refine V_iload_n dX5_readStep_28 rfl ?_
    refine V_callSw dX5_readStep_29 kX5_75 ykX6_greatestNumber (tX6_greatestNumber _) rfl (Nat.le_of_ble_eq_true rfl) ⟨by decide, by decide, by decide, by decide⟩ ?_
    rw [gN_gM hv5]
    refine V_callVw dX5_readStep_32 kX5_57 ykX5_readNumber (by decide) rfl rfl (tX5_readNumber (C := aP C (p + 1)) (n := n) (p := p + 1) (lo := 0) (hi := gM v) (chOK_aP hch) (by rw [aP_0]; exact hn) hn60 aP_1 (by omega) (by omega) hg99) rfl (Nat.le_of_ble_eq_true rfl) ⟨by decide, by decide, by decide, by decide⟩ ?_
    rw [show chC (aP C (p + 1)) n = chC C n from rfl, aP_aP]
    have l1 := pNum_le (lo := 0) (hi := gM v) c0 (show p + 1 ≤ n by omega)
    have l1x : ∀ x, (pNum (chC C n) 0 (gM v) (p + 1)).1 = some x → x ≤ gM v ∧ (0 = 0 ∨ 0 < x) := fun x => pNum_hi (by have := gM_9 (v := v); omega)
    generalize pNum (chC C n) 0 (gM v) (p + 1) = r1 at hr l1 l1x
    obtain ⟨x1, p1⟩ := r1
    simp only at hr l1 l1x
    refine V_istore_n dX5_readStep_35 (by decide) (by dsimp only [List.set] <;> rfl) rfl ?_
    refine V_iload_n dX5_readStep_36 rfl ?_
    cases x1 with
    | none =>
      refine V_if_ge dX5_readStep_37 (fun z => absurd z (show ¬ (0 : Int32) ≤ -1 by decide)) (fun _ => ?_)
      refine V_iconst (v := 0) dX5_readStep_40 (by decide) ?_
      refine V_zret dX5_readStep_41 rfl (by first | rfl | exact bI_nar) rfl rfl ?_
      exact bad p1 hr
    | some x1 =>
      have hx1 := (l1x x1 rfl).1
      simp only at hr
      rw [show nuR (some x1, p1) 0 = nI x1 from rfl]
      refine V_if_ge dX5_readStep_37 (fun _ => ?_) (fun z => absurd (by rw [i_le]; rw [nI_toInt (by omega)]; have : (0 : Int32).toInt = 0 := rfl; omega) z)
      refine V_iconst (v := 0) dX5_readStep_42 (by decide) ?_
      refine V_istore dX5_readStep_43 (by decide) (by dsimp only [List.set] <;> rfl) rfl ?_
      have fin : ∀ (q : Nat) (y : Int32) (L5 L6 : Option Value), res = (some (v, x1, y), q) → V G l RX5 "readStep" cX5_readStep 7 (some .boolean) (rmd 4 0 0) E0 (Qm G (Rw G a (.int (bI (res.1 ≠ none))) (rsC C t s res)) sz 0 0) sz 0 0 116 [some (.ref (a + 93)), some (.int (bI (hs = true))), some (.int (nI v)), some (.int (nI x1)), some (.int y), L5, L6] [] (B G a (aP C q)) := by
        intro q y L5 L6 hq
        refine V_aload_n dX5_readStep_116 rfl ?_
        refine V_bget dX5_readStep_117 fX5_20 (by decide) rfl (by (try simp only [mset_s, mset_n, pk_us, pk_un, ne_eq, Nat.reduceEqDiff, Nat.reduceAdd, not_false_eq_true, not_true_eq_false]) <;> rfl) ?_
        refine V_aload_n dX5_readStep_120 rfl ?_
        refine V_bget dX5_readStep_121 fX5_20 (by decide) rfl (by (try simp only [mset_s, mset_n, pk_us, pk_un, ne_eq, Nat.reduceEqDiff, Nat.reduceAdd, not_false_eq_true, not_true_eq_false]) <;> rfl) ?_
        refine V_bget dX5_readStep_124 fX5_78 (by decide) rfl (by (try simp only [mset_s, mset_n, pk_us, pk_un, ne_eq, Nat.reduceEqDiff, Nat.reduceAdd, not_false_eq_true, not_true_eq_false]) <;> rfl) ?_
        rw [show aP C q 95 0 = nI t from by rw [aP_n (by decide)]; exact ht]
        refine V_iload_n dX5_readStep_127 rfl ?_
        refine V_iload_n dX5_readStep_128 rfl ?_
        refine V_iload dX5_readStep_129 rfl ?_
        refine V_callVu dX5_readStep_131 kX5_81 ykX3_append (by decide) rfl rfl (tX3_append (q := 95) (W := 20) (N := 20) (s := s) shkT ht20 (by rw [aP_n (by decide)]; exact hsz) (by omega)) rfl (Nat.le_of_ble_eq_true rfl) ⟨by decide, by decide, by decide, by decide⟩ ?_
        rw [if_pos hs20]
        refine V_iconst (v := 1) dX5_readStep_134 (by decide) ?_
        refine V_zret dX5_readStep_135 rfl rfl rfl rfl ?_
        rw [hq]
        exact ⟨rfl, rfl⟩
      refine V_iload_n dX5_readStep_45 rfl ?_
      cases hs with
      | false =>
        refine V_if_eq dX5_readStep_46 (fun _ => ?_) (fun z => absurd (bI_f (by decide)) z)
        exact fin _ _ _ _ (by rw [hr, if_neg (fun z => by cases z.1)])
      | true =>
        have e1 : ∀ q j, chC (aP C q) n j = chC C n j := fun q j => rfl
        have nx := tX5_next (G := G) (l := l) (sz := sz + 0) (a := a) (C := aP C p1) (n := n) (p := p1) (chOK_aP hch) (by rw [aP_0]; exact hn) hn60 aP_1 (by omega)
        rw [e1] at nx
        have num : ∀ (sg : Int32), (chC C n p1 = 43 ∨ chC C n p1 = 45) → sg = (if chC C n p1 = 43 then 1 else -1) → V G l RX5 "readStep" cX5_readStep 7 (some .boolean) (rmd 4 0 0) E0 (Qm G (Rw G a (.int (bI (res.1 ≠ none))) (rsC C t s res)) sz 0 0) sz 0 0 81 [some (.ref (a + 93)), some (.int (bI (true = true))), some (.int (nI v)), some (.int (nI x1)), some (.int 0), none, none] [.int sg] (B G a (aP C p1)) := by
          intro sg hc hsg
          rw [if_pos ⟨rfl, hc⟩] at hr
          have hp1n := vB_none c0 (show chC C n p1 ≠ 0 by rcases hc with z | z <;> rw [z] <;> decide)
          refine V_istore dX5_readStep_81 (by decide) (by dsimp only [List.set] <;> rfl) rfl ?_
          refine V_aload_n dX5_readStep_83 rfl ?_
          refine V_dup dX5_readStep_84 rfl ?_
          refine V_bget dX5_readStep_85 fX5_28 (by decide) rfl (by (try simp only [mset_s, mset_n, pk_us, pk_un, ne_eq, Nat.reduceEqDiff, Nat.reduceAdd, not_false_eq_true, not_true_eq_false]) <;> rfl) ?_
          rw [show aP C p1 93 1 = nI p1 from aP_1]
          refine V_iconst (v := 1) dX5_readStep_88 (by decide) ?_
          refine V_iadd dX5_readStep_89 ?_
          refine V_bputi (i0 := 1) dX5_readStep_90 fX5_28 (by decide) rfl rfl rfl (Nat.le_of_ble_eq_true rfl) rfl ?_
          rw [show mset (aP C p1) 93 (upd (aP C p1 93) 1 (nI p1 + 1)) = aP C (p1 + 1) from by rw [show nI p1 + 1 = nI (p1 + 1) from nI_1 p1]; exact aP_aP]
          refine V_aload_n dX5_readStep_93 rfl ?_
          refine V_iconst (v := 1) dX5_readStep_94 (by decide) ?_
          refine V_bipush (v := 99) dX5_readStep_95 (by decide) ?_
          refine V_callVw dX5_readStep_97 kX5_57 ykX5_readNumber (by decide) rfl rfl (tX5_readNumber (C := aP C (p1 + 1)) (n := n) (p := p1 + 1) (lo := 1) (hi := 99) (chOK_aP hch) (by rw [aP_0]; exact hn) hn60 aP_1 (by omega) (by omega) (by omega)) rfl (Nat.le_of_ble_eq_true rfl) ⟨by decide, by decide, by decide, by decide⟩ ?_
          rw [show chC (aP C (p1 + 1)) n = chC C n from rfl, aP_aP]
          have l2x : ∀ x, (pNum (chC C n) 1 99 (p1 + 1)).1 = some x → x ≤ 99 ∧ (1 = 0 ∨ 0 < x) := fun x => pNum_hi (by decide)
          generalize pNum (chC C n) 1 99 (p1 + 1) = r2 at hr l2x
          obtain ⟨x2, p2⟩ := r2
          simp only at hr l2x
          refine V_istore dX5_readStep_100 (by decide) (by dsimp only [List.set] <;> rfl) rfl ?_
          refine V_iload dX5_readStep_102 rfl ?_
          cases x2 with
          | none =>
            refine V_if_ge dX5_readStep_104 (fun z => absurd z (show ¬ (0 : Int32) ≤ -1 by decide)) (fun _ => ?_)
            refine V_iconst (v := 0) dX5_readStep_107 (by decide) ?_
            refine V_zret dX5_readStep_108 rfl (by first | rfl | exact bI_nar) rfl rfl ?_
            exact bad p2 hr
          | some x2 =>
            have hx2 := l2x x2 rfl
            simp only at hr
            rw [show nuR (some x2, p2) 1 = nI x2 from by show (if 1 ≤ x2 then nI x2 else -1) = nI x2; rw [if_pos (by omega)]]
            refine V_if_ge dX5_readStep_104 (fun _ => ?_) (fun z => absurd (by rw [i_le]; rw [nI_toInt (by omega)]; have : (0 : Int32).toInt = 0 := rfl; omega) z)
            refine V_iload dX5_readStep_109 rfl ?_
            refine V_iload dX5_readStep_111 rfl ?_
            refine V_imul dX5_readStep_113 ?_
            refine V_istore dX5_readStep_114 (by decide) (by dsimp only [List.set] <;> rfl) rfl ?_
            refine fin p2 _ _ _ ?_
            rw [hr, hsg]
            by_cases hq : chC C n p1 = 43
            · rw [if_pos hq, if_pos hq, Int32.one_mul]
            · rw [if_neg hq, if_neg hq, Int32.neg_mul, Int32.one_mul]
        refine V_if_eq dX5_readStep_46 (fun z => absurd z (bI_ne0.mpr rfl)) (fun _ => ?_)
        refine V_aload_n dX5_readStep_49 rfl ?_
        refine V_callVw dX5_readStep_50 kX5_45 ykX5_next (by decide) rfl rfl nx rfl (Nat.le_of_ble_eq_true rfl) ⟨by decide, by decide, by decide, by decide⟩ ?_
        refine V_bipush (v := 43) dX5_readStep_53 (by decide) ?_
        have n67 : (chC C n p1 = 43 ∨ chC C n p1 = 45) → V G l RX5 "readStep" cX5_readStep 7 (some .boolean) (rmd 4 0 0) E0 (Qm G (Rw G a (.int (bI (res.1 ≠ none))) (rsC C t s res)) sz 0 0) sz 0 0 67 [some (.ref (a + 93)), some (.int (bI (true = true))), some (.int (nI v)), some (.int (nI x1)), some (.int 0), none, none] [] (B G a (aP C p1)) := by
          intro hc
          refine V_aload_n dX5_readStep_67 rfl ?_
          refine V_callVw dX5_readStep_68 kX5_45 ykX5_next (by decide) rfl rfl nx rfl (Nat.le_of_ble_eq_true rfl) ⟨by decide, by decide, by decide, by decide⟩ ?_
          refine V_bipush (v := 43) dX5_readStep_71 (by decide) ?_
          by_cases h43 : chC C n p1 = 43
          · refine V_icmp_ne dX5_readStep_73 (fun z => absurd z (fun q => q h43)) (fun _ => ?_)
            refine V_iconst (v := 1) dX5_readStep_76 (by decide) ?_
            refine V_goto dX5_readStep_77 ?_
            exact num 1 hc (by rw [if_pos h43])
          · refine V_icmp_ne dX5_readStep_73 (fun _ => ?_) (fun z => absurd z h43)
            refine V_iconst (v := (-1)) dX5_readStep_80 (by decide) ?_
            exact num (-1) hc (by rw [if_neg h43])
        refine V_icmp_eq dX5_readStep_55 (fun c55 => ?_) (fun c55 => ?_)
        · exact n67 (Or.inl c55)
        · refine V_aload_n dX5_readStep_58 rfl ?_
          refine V_callVw dX5_readStep_59 kX5_45 ykX5_next (by decide) rfl rfl nx rfl (Nat.le_of_ble_eq_true rfl) ⟨by decide, by decide, by decide, by decide⟩ ?_
          refine V_bipush (v := 45) dX5_readStep_62 (by decide) ?_
          refine V_icmp_ne dX5_readStep_64 (fun c64 => ?_) (fun c64 => ?_)
          · exact fin _ _ _ _ (by rw [hr, if_neg (fun z => z.2.elim c55 c64)])
          · exact n67 (Or.inr c64)
end CLS
