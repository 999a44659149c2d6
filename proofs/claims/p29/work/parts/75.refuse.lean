/-! The law: refusesAny, refuses. -/
section LAW
variable {G : GT} {l : Launch} {sz a st hd tc op lc : Nat} {tl ll lt : Nat → Nat} {C D : CT} {h : Hp}
theorem q_len_no {x1 : Int32} {m : Nat} (hm : m < 3) (h1 : ¬ isIx x1 tc) (h2 : ¬ isIx x1 lc) (hI : Inv (bk C 1) hd tc op lc tl ll lt) (hD : SC C D) : Ct G l yX6_length cX6_length 3 (some .int) 1 0 0 sz [.ref a, .int x1, .int (nI m)] (B G a D) (Rq G a C (-1)) := by
  rcases (show m = 0 ∨ m = 1 ∨ m = 2 by omega) with z | z | z <;> subst z
  · exact q_len0_o h1 hI hD
  · exact q_len12_o (Or.inl rfl) h2 hI hD
  · exact q_len12_o (Or.inr rfl) h2 hI hD
theorem nIxi {x : Int32} (h : x.toInt < 0 ∨ 6 ≤ x.toInt) {m : Nat} (hm : m ≤ 6) : ¬ isIx x m := fun z => by
  have := z.1
  have := z.2
  omega
set_option maxHeartbeats 8000000 in
theorem ref_even {X : Nat} {N F : Int32} (hX : X < 2147483648) (hb : X % 2 = 0) (hN : N.toInt < 0 ∨ 6 ≤ N.toInt) (hN2 : (N + nI 0).toInt < 0 ∨ 6 ≤ (N + nI 0).toInt) (hF : F.toInt < 0 ∨ 30 ≤ F.toInt) (hJ : JW C st) (hI : Inv (bk C 1) hd tc op lc tl ll lt) (hD : SC C D) : V G l RL "refusesAny" cL_refusesAny 6 (some .boolean) (rmd 9 0 0) E0 (Qm G (Rq G a C 1) sz 0 0) sz 0 0 46 [some (.ref a), some (.int (nI X)), some (.int N), some (.int F), none, none] [] (B G a D) := by
  obtain ⟨c1, c2, c3, c4⟩ := iv_tc hI
  obtain ⟨c5, c6⟩ := iv_lc hI
  have e2 : nI X - nI X / 2 * 2 = nI 0 := by
    rw [show (2 : Int32) = nI 2 from rfl, pk_rem hX (by decide) (by decide), hb]
  have e3 : nI X - nI X / 3 * 3 = nI (X % 3) := by
    rw [show (3 : Int32) = nI 3 from rfl, pk_rem hX (by decide) (by decide)]
  have t0 : 0 < tc → 1 ≤ tl 0 ∧ tl 0 ≤ 12 := fun z => ⟨iv_t1 hI z, (iv_tr hI (i := 0) (by omega)).2.1⟩
  have z0 : (0 : Int32).toInt = 0 := rfl
  have z5 : (5 : Int32).toInt = 5 := rfl
  have z29 : (29 : Int32).toInt = 29 := rfl
  have sv : ¬ (0 ≤ N ∧ N ≤ 5) := fun z => by
    have q1 := z.1
    have q2 := z.2
    rw [i_le] at q1 q2
    omega
  have sf : ¬ inR 0 F := fun z => by
    have q1 := z.1
    have q2 : F ≤ 29 := z.2
    rw [i_le] at q1 q2
    omega
  have cf : ¬ isIx F 30 := fun z => by
    have := z.1
    have := z.2
    omega
  have k705 : ∀ (D : CT), SC C D → V G l RL "refusesAny" cL_refusesAny 6 (some .boolean) (rmd 9 0 0) E0 (Qm G (Rq G a C 1) sz 0 0) sz 0 0 705 [some (.ref a), some (.int (nI X)), some (.int N), some (.int F), some (.int (nI op)), some (.int 1)] [.int 1] (B G a D) := by
    intro D hD
    refine V_istore dL_refusesAny_705 (by decide) (by dsimp only [List.set] <;> rfl) rfl ?_
    refine V_iload dL_refusesAny_707 rfl ?_
    refine V_if_eq dL_refusesAny_709 (fun z => absurd z (by decide)) (fun _ => ?_)
    refine V_aload_n dL_refusesAny_712 rfl ?_
    refine V_rq dL_refusesAny_713 kL_85 ykX6_clearText rfl (q_clearText hJ hD) rfl (Nat.le_of_ble_eq_true rfl) ⟨by decide, by decide, by decide, by decide⟩ (fun D hD => ?_)
    refine V_if_ne dL_refusesAny_716 (fun z => absurd z (fun z => z rfl)) (fun _ => ?_)
    refine V_aload_n dL_refusesAny_719 rfl ?_
    refine V_rq dL_refusesAny_720 kL_88 ykX6_perform rfl (q_perform hJ hD) rfl (Nat.le_of_ble_eq_true rfl) ⟨by decide, by decide, by decide, by decide⟩ (fun D hD => ?_)
    refine V_bipush (v := (-100)) dL_refusesAny_723 (by decide) ?_
    refine V_icmp_ne dL_refusesAny_725 (fun z => absurd z (fun z => z rfl)) (fun _ => ?_)
    refine V_iconst (v := 1) dL_refusesAny_728 (by decide) ?_
    refine V_goto dL_refusesAny_729 ?_
    refine V_zret dL_refusesAny_733 rfl (by first | rfl | exact bI_nar) rfl rfl ?_
    exact ⟨D, rfl, rfl, hD⟩
  have k583 : ∀ (D : CT), SC C D → V G l RL "refusesAny" cL_refusesAny 6 (some .boolean) (rmd 9 0 0) E0 (Qm G (Rq G a C 1) sz 0 0) sz 0 0 583 [some (.ref a), some (.int (nI X)), some (.int N), some (.int F), some (.int (nI op)), some (.int 1)] [.int 1] (B G a D) := by
    intro D hD
    refine V_istore dL_refusesAny_583 (by decide) (by dsimp only [List.set] <;> rfl) rfl ?_
    refine V_iload dL_refusesAny_585 rfl ?_
    refine V_if_eq dL_refusesAny_587 (fun z => absurd z (by decide)) (fun _ => ?_)
    by_cases hl : lc = 0
    · refine V_aload_n dL_refusesAny_590 rfl ?_
      refine V_iconst (v := 4) dL_refusesAny_591 (by decide) ?_
      refine V_rq dL_refusesAny_592 kL_20 ykX6_total rfl (q_tot4 hI hD) rfl (Nat.le_of_ble_eq_true rfl) ⟨by decide, by decide, by decide, by decide⟩ (fun D hD => ?_)
      refine V_if_eq dL_refusesAny_595 (fun _ => ?_) (fun z => absurd (by rw [hl]; rfl) z)
      refine V_iconst (v := 1) dL_refusesAny_700 (by decide) ?_
      refine V_goto dL_refusesAny_701 ?_
      exact k705 D hD
    · have hl0 : 0 < lc := by omega
      have h1 := (iv_lp hI hl0).2.1
      refine V_aload_n dL_refusesAny_590 rfl ?_
      refine V_iconst (v := 4) dL_refusesAny_591 (by decide) ?_
      refine V_rq dL_refusesAny_592 kL_20 ykX6_total rfl (q_tot4 hI hD) rfl (Nat.le_of_ble_eq_true rfl) ⟨by decide, by decide, by decide, by decide⟩ (fun D hD => ?_)
      refine V_if_eq dL_refusesAny_595 (fun z => absurd z (fun z => hl ((neq (b := 0) (by omega) (by decide)).mp z))) (fun _ => ?_)
      refine V_aload_n dL_refusesAny_598 rfl ?_
      refine V_iconst (v := 0) dL_refusesAny_599 (by decide) ?_
      refine V_iload_n dL_refusesAny_600 rfl ?_
      refine V_iconst (v := 2) dL_refusesAny_601 (by decide) ?_
      refine V_irem dL_refusesAny_602 (by decide) ?_
      refine V_toe e2 ?_
      refine V_if_ne dL_refusesAny_603 (fun z => absurd z (fun z => z rfl)) (fun _ => ?_)
      refine V_iconst (v := 0) dL_refusesAny_606 (by decide) ?_
      refine V_goto dL_refusesAny_607 ?_
      refine V_iconst (v := 0) dL_refusesAny_612 (by decide) ?_
      refine V_rq dL_refusesAny_613 kL_48 ykX6_ifPlayed rfl (q_ifPlayed_r (n := 0) _ 0 hl0 (by decide) hI hD) rfl (Nat.le_of_ble_eq_true rfl) ⟨by decide, by decide, by decide, by decide⟩ (fun D hD => ?_)
      refine V_bipush (v := (-2)) dL_refusesAny_616 (by decide) ?_
      refine V_icmp_ne dL_refusesAny_618 (fun z => absurd z (fun z => z rfl)) (fun _ => ?_)
      refine V_aload_n dL_refusesAny_621 rfl ?_
      refine V_iconst (v := 0) dL_refusesAny_622 (by decide) ?_
      refine V_iconst (v := 1) dL_refusesAny_623 (by decide) ?_
      refine V_iload_n dL_refusesAny_624 rfl ?_
      refine V_iconst (v := 2) dL_refusesAny_625 (by decide) ?_
      refine V_irem dL_refusesAny_626 (by decide) ?_
      refine V_toe e2 ?_
      refine V_if_ne dL_refusesAny_627 (fun z => absurd z (fun z => z rfl)) (fun _ => ?_)
      refine V_iconst (v := (-1)) dL_refusesAny_630 (by decide) ?_
      refine V_goto dL_refusesAny_631 ?_
      refine V_rq dL_refusesAny_635 kL_48 ykX6_ifPlayed rfl (q_ifPlayed_r (n := 0) 1 _ hl0 (by decide) hI hD) rfl (Nat.le_of_ble_eq_true rfl) ⟨by decide, by decide, by decide, by decide⟩ (fun D hD => ?_)
      refine V_bipush (v := (-2)) dL_refusesAny_638 (by decide) ?_
      refine V_icmp_ne dL_refusesAny_640 (fun z => absurd z (fun z => z rfl)) (fun _ => ?_)
      refine V_aload_n dL_refusesAny_643 rfl ?_
      refine V_iconst (v := 0) dL_refusesAny_644 (by decide) ?_
      refine V_iload_n dL_refusesAny_645 rfl ?_
      refine V_bipush (v := 100) dL_refusesAny_646 (by decide) ?_
      refine V_rq dL_refusesAny_648 kL_82 ykX6_fewestTurns rfl (q_fewestTurns_o 0 F 100 (fun z => cf z.2) hI hD) rfl (Nat.le_of_ble_eq_true rfl) ⟨by decide, by decide, by decide, by decide⟩ (fun D hD => ?_)
      refine V_iconst (v := (-1)) dL_refusesAny_651 (by decide) ?_
      refine V_icmp_ne dL_refusesAny_652 (fun z => absurd z (fun z => z rfl)) (fun _ => ?_)
      refine V_aload_n dL_refusesAny_655 rfl ?_
      refine V_iconst (v := 0) dL_refusesAny_656 (by decide) ?_
      refine V_iconst (v := 0) dL_refusesAny_657 (by decide) ?_
      refine V_iload_n dL_refusesAny_658 rfl ?_
      refine V_iconst (v := 2) dL_refusesAny_659 (by decide) ?_
      refine V_irem dL_refusesAny_660 (by decide) ?_
      refine V_toe e2 ?_
      refine V_if_ne dL_refusesAny_661 (fun z => absurd z (fun z => z rfl)) (fun _ => ?_)
      refine V_iconst (v := (-1)) dL_refusesAny_664 (by decide) ?_
      refine V_goto dL_refusesAny_665 ?_
      refine V_rq dL_refusesAny_670 kL_82 ykX6_fewestTurns rfl (q_fewestTurns_r (n := 0) (cl := 0) _ hl0 (by decide) (by decide) hI hD) rfl (Nat.le_of_ble_eq_true rfl) ⟨by decide, by decide, by decide, by decide⟩ (fun D hD => ?_)
      refine V_bipush (v := (-2)) dL_refusesAny_673 (by decide) ?_
      refine V_icmp_ne dL_refusesAny_675 (fun z => absurd z (fun z => z rfl)) (fun _ => ?_)
      refine V_aload_n dL_refusesAny_678 rfl ?_
      refine V_iconst (v := 0) dL_refusesAny_679 (by decide) ?_
      refine V_iconst (v := 0) dL_refusesAny_680 (by decide) ?_
      refine V_iload_n dL_refusesAny_681 rfl ?_
      refine V_iconst (v := 2) dL_refusesAny_682 (by decide) ?_
      refine V_irem dL_refusesAny_683 (by decide) ?_
      refine V_toe e2 ?_
      refine V_if_ne dL_refusesAny_684 (fun z => absurd z (fun z => z rfl)) (fun _ => ?_)
      refine V_iconst (v := (-1)) dL_refusesAny_687 (by decide) ?_
      refine V_goto dL_refusesAny_688 ?_
      refine V_rq dL_refusesAny_692 kL_31 ykX6_ofLoop rfl (q_oL_r (n := 0) (k := 0) hl0 (by omega) (by decide) hI hD) rfl (Nat.le_of_ble_eq_true rfl) ⟨by decide, by decide, by decide, by decide⟩ (fun D hD => ?_)
      refine V_bipush (v := (-2)) dL_refusesAny_695 (by decide) ?_
      refine V_icmp_ne dL_refusesAny_697 (fun z => absurd z (fun z => z rfl)) (fun _ => ?_)
      refine V_iconst (v := 1) dL_refusesAny_700 (by decide) ?_
      refine V_goto dL_refusesAny_701 ?_
      exact k705 D hD
  have k506 : ∀ (D : CT), SC C D → V G l RL "refusesAny" cL_refusesAny 6 (some .boolean) (rmd 9 0 0) E0 (Qm G (Rq G a C 1) sz 0 0) sz 0 0 506 [some (.ref a), some (.int (nI X)), some (.int N), some (.int F), some (.int (nI op)), some (.int 1)] [] (B G a D) := by
    intro D hD
    refine V_aload_n dL_refusesAny_506 rfl ?_
    refine V_iload_n dL_refusesAny_507 rfl ?_
    refine V_iconst (v := 2) dL_refusesAny_508 (by decide) ?_
    refine V_irem dL_refusesAny_509 (by decide) ?_
    refine V_toe e2 ?_
    refine V_if_ne dL_refusesAny_510 (fun z => absurd z (fun z => z rfl)) (fun _ => ?_)
    refine V_iconst (v := (-1)) dL_refusesAny_513 (by decide) ?_
    refine V_goto dL_refusesAny_514 ?_
    refine V_rq dL_refusesAny_518 kL_42 ykX6_bestPair rfl (q_bestPair_o _ (by decide) hD) rfl (Nat.le_of_ble_eq_true rfl) ⟨by decide, by decide, by decide, by decide⟩ (fun D hD => ?_)
    refine V_bipush (v := (-2)) dL_refusesAny_521 (by decide) ?_
    refine V_icmp_ne dL_refusesAny_523 (fun z => absurd z (fun z => z rfl)) (fun _ => ?_)
    refine V_aload_n dL_refusesAny_526 rfl ?_
    refine V_iload_n dL_refusesAny_527 rfl ?_
    refine V_iconst (v := 0) dL_refusesAny_528 (by decide) ?_
    refine V_rq dL_refusesAny_529 kL_51 ykX6_fits rfl (q_fits_o N 0 (fun z => nIxi hN c6 z.1) hI hD) rfl (Nat.le_of_ble_eq_true rfl) ⟨by decide, by decide, by decide, by decide⟩ (fun D hD => ?_)
    refine V_iconst (v := (-1)) dL_refusesAny_532 (by decide) ?_
    refine V_icmp_ne dL_refusesAny_533 (fun z => absurd z (fun z => z rfl)) (fun _ => ?_)
    refine V_aload_n dL_refusesAny_536 rfl ?_
    refine V_iconst (v := 0) dL_refusesAny_537 (by decide) ?_
    refine V_iload_n dL_refusesAny_538 rfl ?_
    refine V_rq dL_refusesAny_539 kL_51 ykX6_fits rfl (q_fits_o 0 N (fun z => nIxi hN c2 z.2) hI hD) rfl (Nat.le_of_ble_eq_true rfl) ⟨by decide, by decide, by decide, by decide⟩ (fun D hD => ?_)
    refine V_iconst (v := (-1)) dL_refusesAny_542 (by decide) ?_
    refine V_icmp_ne dL_refusesAny_543 (fun z => absurd z (fun z => z rfl)) (fun _ => ?_)
    refine V_aload_n dL_refusesAny_546 rfl ?_
    refine V_iload_n dL_refusesAny_547 rfl ?_
    refine V_rq dL_refusesAny_548 kL_45 ykX6_mostTurns rfl (q_mostTurns_o N (nIxi hN c6) hI hD) rfl (Nat.le_of_ble_eq_true rfl) ⟨by decide, by decide, by decide, by decide⟩ (fun D hD => ?_)
    refine V_iconst (v := (-1)) dL_refusesAny_551 (by decide) ?_
    refine V_icmp_ne dL_refusesAny_552 (fun z => absurd z (fun z => z rfl)) (fun _ => ?_)
    refine V_aload_n dL_refusesAny_555 rfl ?_
    refine V_iload_n dL_refusesAny_556 rfl ?_
    refine V_iconst (v := 0) dL_refusesAny_557 (by decide) ?_
    refine V_bipush (v := 9) dL_refusesAny_558 (by decide) ?_
    refine V_rq dL_refusesAny_560 kL_48 ykX6_ifPlayed rfl (q_ifPlayed_o N 0 9 (nIxi hN c6) hI hD) rfl (Nat.le_of_ble_eq_true rfl) ⟨by decide, by decide, by decide, by decide⟩ (fun D hD => ?_)
    refine V_iconst (v := (-1)) dL_refusesAny_563 (by decide) ?_
    refine V_icmp_ne dL_refusesAny_564 (fun z => absurd z (fun z => z rfl)) (fun _ => ?_)
    refine V_aload_n dL_refusesAny_567 rfl ?_
    refine V_iload_n dL_refusesAny_568 rfl ?_
    refine V_iconst (v := 0) dL_refusesAny_569 (by decide) ?_
    refine V_iconst (v := 0) dL_refusesAny_570 (by decide) ?_
    refine V_rq dL_refusesAny_571 kL_82 ykX6_fewestTurns rfl (q_fewestTurns_o N 0 0 (fun z => nIxi hN c6 z.1) hI hD) rfl (Nat.le_of_ble_eq_true rfl) ⟨by decide, by decide, by decide, by decide⟩ (fun D hD => ?_)
    refine V_iconst (v := (-1)) dL_refusesAny_574 (by decide) ?_
    refine V_icmp_ne dL_refusesAny_575 (fun z => absurd z (fun z => z rfl)) (fun _ => ?_)
    refine V_iconst (v := 1) dL_refusesAny_578 (by decide) ?_
    refine V_goto dL_refusesAny_579 ?_
    exact k583 D hD
  have k329 : ∀ (D : CT), SC C D → V G l RL "refusesAny" cL_refusesAny 6 (some .boolean) (rmd 9 0 0) E0 (Qm G (Rq G a C 1) sz 0 0) sz 0 0 329 [some (.ref a), some (.int (nI X)), some (.int N), some (.int F), some (.int (nI op)), none] [.int 1] (B G a D) := by
    intro D hD
    refine V_istore dL_refusesAny_329 (by decide) (by dsimp only [List.set] <;> rfl) rfl ?_
    refine V_iload dL_refusesAny_331 rfl ?_
    refine V_if_eq dL_refusesAny_333 (fun z => absurd z (by decide)) (fun _ => ?_)
    refine V_aload_n dL_refusesAny_336 rfl ?_
    refine V_iload_n dL_refusesAny_337 rfl ?_
    refine V_rq dL_refusesAny_338 kL_14 ykX6_cell rfl (q_cl_o cf hD) rfl (Nat.le_of_ble_eq_true rfl) ⟨by decide, by decide, by decide, by decide⟩ (fun D hD => ?_)
    refine V_iconst (v := (-1)) dL_refusesAny_341 (by decide) ?_
    refine V_icmp_ne dL_refusesAny_342 (fun z => absurd z (fun z => z rfl)) (fun _ => ?_)
    refine V_aload_n dL_refusesAny_345 rfl ?_
    refine V_iload_n dL_refusesAny_346 rfl ?_
    refine V_iload_n dL_refusesAny_347 rfl ?_
    refine V_iconst (v := 2) dL_refusesAny_348 (by decide) ?_
    refine V_irem dL_refusesAny_349 (by decide) ?_
    refine V_toe e2 ?_
    refine V_iadd dL_refusesAny_350 ?_
    refine V_iconst (v := 0) dL_refusesAny_351 (by decide) ?_
    refine V_bipush (v := 9) dL_refusesAny_352 (by decide) ?_
    refine V_rq dL_refusesAny_354 kL_23 ykX6_ofTry rfl (q_oT_o (nIxi hN2 (by omega)) hI hD) rfl (Nat.le_of_ble_eq_true rfl) ⟨by decide, by decide, by decide, by decide⟩ (fun D hD => ?_)
    refine V_iconst (v := (-1)) dL_refusesAny_357 (by decide) ?_
    refine V_icmp_ne dL_refusesAny_358 (fun z => absurd z (fun z => z rfl)) (fun _ => ?_)
    refine V_aload_n dL_refusesAny_361 rfl ?_
    refine V_iload_n dL_refusesAny_362 rfl ?_
    refine V_iconst (v := 0) dL_refusesAny_363 (by decide) ?_
    refine V_bipush (v := 9) dL_refusesAny_364 (by decide) ?_
    refine V_rq dL_refusesAny_366 kL_31 ykX6_ofLoop rfl (q_oL_o (nIxi hN c6) hI hD) rfl (Nat.le_of_ble_eq_true rfl) ⟨by decide, by decide, by decide, by decide⟩ (fun D hD => ?_)
    refine V_iconst (v := (-1)) dL_refusesAny_369 (by decide) ?_
    refine V_icmp_ne dL_refusesAny_370 (fun z => absurd z (fun z => z rfl)) (fun _ => ?_)
    refine V_aload_n dL_refusesAny_373 rfl ?_
    refine V_iload_n dL_refusesAny_374 rfl ?_
    refine V_iconst (v := 3) dL_refusesAny_375 (by decide) ?_
    refine V_rq dL_refusesAny_376 kL_27 ykX6_length rfl (q_len_r (by decide) hI hD) rfl (Nat.le_of_ble_eq_true rfl) ⟨by decide, by decide, by decide, by decide⟩ (fun D hD => ?_)
    refine V_bipush (v := (-2)) dL_refusesAny_379 (by decide) ?_
    refine V_icmp_ne dL_refusesAny_381 (fun z => absurd z (fun z => z rfl)) (fun _ => ?_)
    refine V_aload_n dL_refusesAny_384 rfl ?_
    refine V_iload_n dL_refusesAny_385 rfl ?_
    refine V_iload_n dL_refusesAny_386 rfl ?_
    refine V_iconst (v := 3) dL_refusesAny_387 (by decide) ?_
    refine V_irem dL_refusesAny_388 (by decide) ?_
    refine V_toe e3 ?_
    refine V_rq dL_refusesAny_389 kL_27 ykX6_length rfl (q_len_no (Nat.mod_lt _ (by decide)) (nIxi hN c2) (nIxi hN c6) hI hD) rfl (Nat.le_of_ble_eq_true rfl) ⟨by decide, by decide, by decide, by decide⟩ (fun D hD => ?_)
    refine V_iconst (v := (-1)) dL_refusesAny_392 (by decide) ?_
    refine V_icmp_ne dL_refusesAny_393 (fun z => absurd z (fun z => z rfl)) (fun _ => ?_)
    refine V_aload_n dL_refusesAny_396 rfl ?_
    refine V_iload_n dL_refusesAny_397 rfl ?_
    refine V_iconst (v := 2) dL_refusesAny_398 (by decide) ?_
    refine V_irem dL_refusesAny_399 (by decide) ?_
    refine V_toe e2 ?_
    refine V_if_ne dL_refusesAny_400 (fun z => absurd z (fun z => z rfl)) (fun _ => ?_)
    refine V_iconst (v := (-1)) dL_refusesAny_403 (by decide) ?_
    refine V_goto dL_refusesAny_404 ?_
    refine V_rq dL_refusesAny_409 kL_20 ykX6_total rfl (q_total_r _ (by decide) hD) rfl (Nat.le_of_ble_eq_true rfl) ⟨by decide, by decide, by decide, by decide⟩ (fun D hD => ?_)
    refine V_bipush (v := (-2)) dL_refusesAny_412 (by decide) ?_
    refine V_icmp_ne dL_refusesAny_414 (fun z => absurd z (fun z => z rfl)) (fun _ => ?_)
    refine V_aload_n dL_refusesAny_417 rfl ?_
    refine V_iload_n dL_refusesAny_418 rfl ?_
    refine V_iconst (v := 0) dL_refusesAny_419 (by decide) ?_
    refine V_bipush (v := 9) dL_refusesAny_420 (by decide) ?_
    refine V_rq dL_refusesAny_422 kL_36 ykX6_alike rfl (q_alike_o N 0 9 (fun z => nIxi hN c2 z.1) hI hD) rfl (Nat.le_of_ble_eq_true rfl) ⟨by decide, by decide, by decide, by decide⟩ (fun D hD => ?_)
    refine V_iconst (v := (-1)) dL_refusesAny_425 (by decide) ?_
    refine V_icmp_ne dL_refusesAny_426 (fun z => absurd z (fun z => z rfl)) (fun _ => ?_)
    by_cases ht : tc = 0
    · refine V_aload_n dL_refusesAny_429 rfl ?_
      refine V_iconst (v := 2) dL_refusesAny_430 (by decide) ?_
      refine V_rq dL_refusesAny_431 kL_20 ykX6_total rfl (q_tot2 hI hD) rfl (Nat.le_of_ble_eq_true rfl) ⟨by decide, by decide, by decide, by decide⟩ (fun D hD => ?_)
      refine V_if_eq dL_refusesAny_434 (fun _ => ?_) (fun z => absurd (by rw [ht]; rfl) z)
      exact k506 D hD
    · have ht0 : 0 < tc := by omega
      obtain ⟨t1, t2⟩ := t0 ht0
      refine V_aload_n dL_refusesAny_429 rfl ?_
      refine V_iconst (v := 2) dL_refusesAny_430 (by decide) ?_
      refine V_rq dL_refusesAny_431 kL_20 ykX6_total rfl (q_tot2 hI hD) rfl (Nat.le_of_ble_eq_true rfl) ⟨by decide, by decide, by decide, by decide⟩ (fun D hD => ?_)
      refine V_if_eq dL_refusesAny_434 (fun z => absurd z (fun z => ht ((neq (b := 0) (by omega) (by decide)).mp z))) (fun _ => ?_)
      refine V_aload_n dL_refusesAny_437 rfl ?_
      refine V_iconst (v := 0) dL_refusesAny_438 (by decide) ?_
      refine V_iload_n dL_refusesAny_439 rfl ?_
      refine V_bipush (v := 9) dL_refusesAny_440 (by decide) ?_
      refine V_rq dL_refusesAny_442 kL_36 ykX6_alike rfl (q_alike_o 0 N 9 (fun z => nIxi hN c2 z.2) hI hD) rfl (Nat.le_of_ble_eq_true rfl) ⟨by decide, by decide, by decide, by decide⟩ (fun D hD => ?_)
      refine V_iconst (v := (-1)) dL_refusesAny_445 (by decide) ?_
      refine V_icmp_ne dL_refusesAny_446 (fun z => absurd z (fun z => z rfl)) (fun _ => ?_)
      refine V_aload_n dL_refusesAny_449 rfl ?_
      refine V_iconst (v := 0) dL_refusesAny_450 (by decide) ?_
      refine V_iconst (v := 0) dL_refusesAny_451 (by decide) ?_
      refine V_iload_n dL_refusesAny_452 rfl ?_
      refine V_iconst (v := 2) dL_refusesAny_453 (by decide) ?_
      refine V_irem dL_refusesAny_454 (by decide) ?_
      refine V_toe e2 ?_
      refine V_if_ne dL_refusesAny_455 (fun z => absurd z (fun z => z rfl)) (fun _ => ?_)
      refine V_iconst (v := (-1)) dL_refusesAny_458 (by decide) ?_
      refine V_goto dL_refusesAny_459 ?_
      refine V_rq dL_refusesAny_463 kL_36 ykX6_alike rfl (q_alike_r (i := 0) (j := 0) _ ht0 ht0 (by decide) hI hD) rfl (Nat.le_of_ble_eq_true rfl) ⟨by decide, by decide, by decide, by decide⟩ (fun D hD => ?_)
      refine V_bipush (v := (-2)) dL_refusesAny_466 (by decide) ?_
      refine V_icmp_ne dL_refusesAny_468 (fun z => absurd z (fun z => z rfl)) (fun _ => ?_)
      refine V_aload_n dL_refusesAny_471 rfl ?_
      refine V_iconst (v := 0) dL_refusesAny_472 (by decide) ?_
      refine V_iconst (v := 0) dL_refusesAny_473 (by decide) ?_
      refine V_iload_n dL_refusesAny_474 rfl ?_
      refine V_iconst (v := 2) dL_refusesAny_475 (by decide) ?_
      refine V_irem dL_refusesAny_476 (by decide) ?_
      refine V_toe e2 ?_
      refine V_if_ne dL_refusesAny_477 (fun z => absurd z (fun z => z rfl)) (fun _ => ?_)
      refine V_iconst (v := (-1)) dL_refusesAny_480 (by decide) ?_
      refine V_goto dL_refusesAny_481 ?_
      refine V_rq dL_refusesAny_485 kL_23 ykX6_ofTry rfl (q_oT_r (n := 0) (k := 0) (by omega) (by omega) (by decide) hI hD) rfl (Nat.le_of_ble_eq_true rfl) ⟨by decide, by decide, by decide, by decide⟩ (fun D hD => ?_)
      refine V_bipush (v := (-2)) dL_refusesAny_488 (by decide) ?_
      refine V_icmp_ne dL_refusesAny_490 (fun z => absurd z (fun z => z rfl)) (fun _ => ?_)
      refine V_aload_n dL_refusesAny_493 rfl ?_
      refine V_iconst (v := 0) dL_refusesAny_494 (by decide) ?_
      refine V_bipush (v := 12) dL_refusesAny_495 (by decide) ?_
      refine V_bipush (v := 9) dL_refusesAny_497 (by decide) ?_
      refine V_rq dL_refusesAny_499 kL_23 ykX6_ofTry rfl (q_oT_s (n := 0) (x2 := nI 12) (by omega) (nIx t2 (by decide)) hI hD) rfl (Nat.le_of_ble_eq_true rfl) ⟨by decide, by decide, by decide, by decide⟩ (fun D hD => ?_)
      refine V_iconst (v := (-1)) dL_refusesAny_502 (by decide) ?_
      refine V_icmp_ne dL_refusesAny_503 (fun z => absurd z (fun z => z rfl)) (fun _ => ?_)
      exact k506 D hD
  have k225 : ∀ (D : CT), SC C D → V G l RL "refusesAny" cL_refusesAny 6 (some .boolean) (rmd 9 0 0) E0 (Qm G (Rq G a C 1) sz 0 0) sz 0 0 225 [some (.ref a), some (.int (nI X)), some (.int N), some (.int F), some (.int (nI op)), none] [] (B G a D) := by
    intro D hD
    refine V_aload_n dL_refusesAny_225 rfl ?_
    refine V_iload_n dL_refusesAny_226 rfl ?_
    refine V_rq dL_refusesAny_227 kL_70 ykX6_fold rfl (q_fold_o N (nIxi hN c2) hI hD) rfl (Nat.le_of_ble_eq_true rfl) ⟨by decide, by decide, by decide, by decide⟩ (fun D hD => ?_)
    refine V_iconst (v := (-1)) dL_refusesAny_230 (by decide) ?_
    refine V_icmp_ne dL_refusesAny_231 (fun z => absurd z (fun z => z rfl)) (fun _ => ?_)
    refine V_aload_n dL_refusesAny_234 rfl ?_
    refine V_iload_n dL_refusesAny_235 rfl ?_
    refine V_bipush (v := 100) dL_refusesAny_236 (by decide) ?_
    refine V_rq dL_refusesAny_238 kL_73 ykX6_setTurns rfl (q_setTurns_o N 100 (nIxi hN c6) hI hD) rfl (Nat.le_of_ble_eq_true rfl) ⟨by decide, by decide, by decide, by decide⟩ (fun D hD => ?_)
    refine V_iconst (v := (-1)) dL_refusesAny_241 (by decide) ?_
    refine V_icmp_ne dL_refusesAny_242 (fun z => absurd z (fun z => z rfl)) (fun _ => ?_)
    refine V_aload_n dL_refusesAny_245 rfl ?_
    refine V_iload_n dL_refusesAny_246 rfl ?_
    refine V_rq dL_refusesAny_247 kL_76 ykX6_dropLoop rfl (q_dropLoop_o N (nIxi hN c6) hI hD) rfl (Nat.le_of_ble_eq_true rfl) ⟨by decide, by decide, by decide, by decide⟩ (fun D hD => ?_)
    refine V_iconst (v := (-1)) dL_refusesAny_250 (by decide) ?_
    refine V_icmp_ne dL_refusesAny_251 (fun z => absurd z (fun z => z rfl)) (fun _ => ?_)
    refine V_aload_n dL_refusesAny_254 rfl ?_
    refine V_iload_n dL_refusesAny_255 rfl ?_
    refine V_rq dL_refusesAny_256 kL_79 ykX6_play rfl (q_play_x N (nIxi hN c6) hI hD) rfl (Nat.le_of_ble_eq_true rfl) ⟨by decide, by decide, by decide, by decide⟩ (fun D hD => ?_)
    refine V_iconst (v := (-1)) dL_refusesAny_259 (by decide) ?_
    refine V_icmp_ne dL_refusesAny_260 (fun z => absurd z (fun z => z rfl)) (fun _ => ?_)
    by_cases hl : lc = 0
    · refine V_aload_n dL_refusesAny_263 rfl ?_
      refine V_iconst (v := 4) dL_refusesAny_264 (by decide) ?_
      refine V_rq dL_refusesAny_265 kL_20 ykX6_total rfl (q_tot4 hI hD) rfl (Nat.le_of_ble_eq_true rfl) ⟨by decide, by decide, by decide, by decide⟩ (fun D hD => ?_)
      refine V_if_eq dL_refusesAny_268 (fun _ => ?_) (fun z => absurd (by rw [hl]; rfl) z)
      refine V_iconst (v := 1) dL_refusesAny_324 (by decide) ?_
      refine V_goto dL_refusesAny_325 ?_
      exact k329 D hD
    · have hl0 : 0 < lc := by omega
      refine V_aload_n dL_refusesAny_263 rfl ?_
      refine V_iconst (v := 4) dL_refusesAny_264 (by decide) ?_
      refine V_rq dL_refusesAny_265 kL_20 ykX6_total rfl (q_tot4 hI hD) rfl (Nat.le_of_ble_eq_true rfl) ⟨by decide, by decide, by decide, by decide⟩ (fun D hD => ?_)
      refine V_if_eq dL_refusesAny_268 (fun z => absurd z (fun z => hl ((neq (b := 0) (by omega) (by decide)).mp z))) (fun _ => ?_)
      refine V_aload_n dL_refusesAny_271 rfl ?_
      refine V_iconst (v := 0) dL_refusesAny_272 (by decide) ?_
      refine V_iload_n dL_refusesAny_273 rfl ?_
      refine V_iconst (v := 2) dL_refusesAny_274 (by decide) ?_
      refine V_irem dL_refusesAny_275 (by decide) ?_
      refine V_toe e2 ?_
      refine V_if_ne dL_refusesAny_276 (fun z => absurd z (fun z => z rfl)) (fun _ => ?_)
      refine V_iconst (v := 0) dL_refusesAny_279 (by decide) ?_
      refine V_goto dL_refusesAny_280 ?_
      refine V_rq dL_refusesAny_285 kL_73 ykX6_setTurns rfl (q_setTurns_r (n := 0) _ hl0 (by decide) hI hD) rfl (Nat.le_of_ble_eq_true rfl) ⟨by decide, by decide, by decide, by decide⟩ (fun D hD => ?_)
      refine V_bipush (v := (-2)) dL_refusesAny_288 (by decide) ?_
      refine V_icmp_ne dL_refusesAny_290 (fun z => absurd z (fun z => z rfl)) (fun _ => ?_)
      refine V_aload_n dL_refusesAny_293 rfl ?_
      refine V_iconst (v := 0) dL_refusesAny_294 (by decide) ?_
      refine V_aload_n dL_refusesAny_295 rfl ?_
      refine V_iconst (v := 0) dL_refusesAny_296 (by decide) ?_
      refine V_iconst (v := 2) dL_refusesAny_297 (by decide) ?_
      refine V_rq dL_refusesAny_298 kL_27 ykX6_length rfl (q_len2 (n := 0) hl0 hI hD) rfl (Nat.le_of_ble_eq_true rfl) ⟨by decide, by decide, by decide, by decide⟩ (fun D hD => ?_)
      refine V_rq dL_refusesAny_301 kL_73 ykX6_setTurns rfl (q_setTurns_s (n := 0) hl0 hI hD) rfl (Nat.le_of_ble_eq_true rfl) ⟨by decide, by decide, by decide, by decide⟩ (fun D hD => ?_)
      refine V_bipush (v := (-5)) dL_refusesAny_304 (by decide) ?_
      refine V_icmp_ne dL_refusesAny_306 (fun z => absurd z (fun z => z rfl)) (fun _ => ?_)
      rcases c4 with ho | ⟨ho, -⟩
      · refine V_iload dL_refusesAny_309 rfl ?_
        refine V_if_eq dL_refusesAny_311 (fun _ => ?_) (fun z => absurd (by rw [ho]; rfl) z)
        refine V_iconst (v := 1) dL_refusesAny_324 (by decide) ?_
        refine V_goto dL_refusesAny_325 ?_
        exact k329 D hD
      · refine V_iload dL_refusesAny_309 rfl ?_
        refine V_if_eq dL_refusesAny_311 (fun z => absurd z (by rw [ho]; decide)) (fun _ => ?_)
        refine V_aload_n dL_refusesAny_314 rfl ?_
        refine V_iconst (v := 0) dL_refusesAny_315 (by decide) ?_
        refine V_rq dL_refusesAny_316 kL_79 ykX6_play rfl (q_play_o (n := 0) hl0 ho hI hD) rfl (Nat.le_of_ble_eq_true rfl) ⟨by decide, by decide, by decide, by decide⟩ (fun D hD => ?_)
        refine V_bipush (v := (-4)) dL_refusesAny_319 (by decide) ?_
        refine V_icmp_ne dL_refusesAny_321 (fun z => absurd z (fun z => z rfl)) (fun _ => ?_)
        refine V_iconst (v := 1) dL_refusesAny_324 (by decide) ?_
        refine V_goto dL_refusesAny_325 ?_
        exact k329 D hD
  have k164 : ∀ (D : CT), SC C D → V G l RL "refusesAny" cL_refusesAny 6 (some .boolean) (rmd 9 0 0) E0 (Qm G (Rq G a C 1) sz 0 0) sz 0 0 164 [some (.ref a), some (.int (nI X)), some (.int N), some (.int F), some (.int (nI op)), none] [] (B G a D) := by
    intro D hD
    refine V_aload_n dL_refusesAny_164 rfl ?_
    refine V_iload_n dL_refusesAny_165 rfl ?_
    refine V_rq dL_refusesAny_166 kL_64 ykX6_dropTry rfl (q_dropTry_o N (nIxi hN c2) hI hD) rfl (Nat.le_of_ble_eq_true rfl) ⟨by decide, by decide, by decide, by decide⟩ (fun D hD => ?_)
    refine V_iconst (v := (-1)) dL_refusesAny_169 (by decide) ?_
    refine V_icmp_ne dL_refusesAny_170 (fun z => absurd z (fun z => z rfl)) (fun _ => ?_)
    refine V_aload_n dL_refusesAny_173 rfl ?_
    refine V_aload_n dL_refusesAny_174 rfl ?_
    refine V_iconst (v := 2) dL_refusesAny_175 (by decide) ?_
    refine V_rq dL_refusesAny_176 kL_20 ykX6_total rfl (q_tot2 hI hD) rfl (Nat.le_of_ble_eq_true rfl) ⟨by decide, by decide, by decide, by decide⟩ (fun D hD => ?_)
    refine V_rq dL_refusesAny_179 kL_64 ykX6_dropTry rfl (q_dropTry_o (nI tc) (nIx (Nat.le_refl _) (by omega)) hI hD) rfl (Nat.le_of_ble_eq_true rfl) ⟨by decide, by decide, by decide, by decide⟩ (fun D hD => ?_)
    refine V_iconst (v := (-1)) dL_refusesAny_182 (by decide) ?_
    refine V_icmp_ne dL_refusesAny_183 (fun z => absurd z (fun z => z rfl)) (fun _ => ?_)
    refine V_aload_n dL_refusesAny_186 rfl ?_
    refine V_iload_n dL_refusesAny_187 rfl ?_
    refine V_iconst (v := 0) dL_refusesAny_188 (by decide) ?_
    refine V_rq dL_refusesAny_189 kL_67 ykX6_generalise rfl (q_generalise_o N 0 (fun z => nIxi hN c2 z.1) hI hD) rfl (Nat.le_of_ble_eq_true rfl) ⟨by decide, by decide, by decide, by decide⟩ (fun D hD => ?_)
    refine V_iconst (v := (-1)) dL_refusesAny_192 (by decide) ?_
    refine V_icmp_ne dL_refusesAny_193 (fun z => absurd z (fun z => z rfl)) (fun _ => ?_)
    by_cases ht : tc = 0
    · refine V_aload_n dL_refusesAny_196 rfl ?_
      refine V_iconst (v := 2) dL_refusesAny_197 (by decide) ?_
      refine V_rq dL_refusesAny_198 kL_20 ykX6_total rfl (q_tot2 hI hD) rfl (Nat.le_of_ble_eq_true rfl) ⟨by decide, by decide, by decide, by decide⟩ (fun D hD => ?_)
      refine V_if_eq dL_refusesAny_201 (fun _ => ?_) (fun z => absurd (by rw [ht]; rfl) z)
      exact k225 D hD
    · have ht0 : 0 < tc := by omega
      refine V_aload_n dL_refusesAny_196 rfl ?_
      refine V_iconst (v := 2) dL_refusesAny_197 (by decide) ?_
      refine V_rq dL_refusesAny_198 kL_20 ykX6_total rfl (q_tot2 hI hD) rfl (Nat.le_of_ble_eq_true rfl) ⟨by decide, by decide, by decide, by decide⟩ (fun D hD => ?_)
      refine V_if_eq dL_refusesAny_201 (fun z => absurd z (fun z => ht ((neq (b := 0) (by omega) (by decide)).mp z))) (fun _ => ?_)
      refine V_aload_n dL_refusesAny_204 rfl ?_
      refine V_iconst (v := 0) dL_refusesAny_205 (by decide) ?_
      refine V_iload_n dL_refusesAny_206 rfl ?_
      refine V_rq dL_refusesAny_207 kL_67 ykX6_generalise rfl (q_generalise_o 0 N (fun z => nIxi hN c2 z.2) hI hD) rfl (Nat.le_of_ble_eq_true rfl) ⟨by decide, by decide, by decide, by decide⟩ (fun D hD => ?_)
      refine V_iconst (v := (-1)) dL_refusesAny_210 (by decide) ?_
      refine V_icmp_ne dL_refusesAny_211 (fun z => absurd z (fun z => z rfl)) (fun _ => ?_)
      refine V_aload_n dL_refusesAny_214 rfl ?_
      refine V_iconst (v := 0) dL_refusesAny_215 (by decide) ?_
      refine V_iconst (v := 0) dL_refusesAny_216 (by decide) ?_
      refine V_rq dL_refusesAny_217 kL_67 ykX6_generalise rfl (q_generalise_n (i := 0) (j := 0) ht0 ht0 (fun z => z.1 rfl) hI hD) rfl (Nat.le_of_ble_eq_true rfl) ⟨by decide, by decide, by decide, by decide⟩ (fun D hD => ?_)
      refine V_bipush (v := (-4)) dL_refusesAny_220 (by decide) ?_
      refine V_icmp_ne dL_refusesAny_222 (fun z => absurd z (fun z => z rfl)) (fun _ => ?_)
      exact k225 D hD
  have k61 : ∀ (D : CT), SC C D → V G l RL "refusesAny" cL_refusesAny 6 (some .boolean) (rmd 9 0 0) E0 (Qm G (Rq G a C 1) sz 0 0) sz 0 0 61 [some (.ref a), some (.int (nI X)), some (.int N), some (.int F), none, none] [.int (nI op)] (B G a D) := by
    intro D hD
    refine V_istore dL_refusesAny_61 (by decide) (by dsimp only [List.set] <;> rfl) rfl ?_
    refine V_aload_n dL_refusesAny_63 rfl ?_
    refine V_iload_n dL_refusesAny_64 rfl ?_
    refine V_bipush (v := 100) dL_refusesAny_65 (by decide) ?_
    refine V_rq dL_refusesAny_67 kL_54 ykX6_step rfl (q_step_v N 100 sv hD) rfl (Nat.le_of_ble_eq_true rfl) ⟨by decide, by decide, by decide, by decide⟩ (fun D hD => ?_)
    refine V_iconst (v := (-1)) dL_refusesAny_70 (by decide) ?_
    refine V_icmp_ne dL_refusesAny_71 (fun z => absurd z (fun z => z rfl)) (fun _ => ?_)
    refine V_aload_n dL_refusesAny_74 rfl ?_
    refine V_iconst (v := 0) dL_refusesAny_75 (by decide) ?_
    refine V_iload_n dL_refusesAny_76 rfl ?_
    refine V_rq dL_refusesAny_77 kL_54 ykX6_step rfl (q_step_r 0 F (by decide) sf hD) rfl (Nat.le_of_ble_eq_true rfl) ⟨by decide, by decide, by decide, by decide⟩ (fun D hD => ?_)
    refine V_bipush (v := (-2)) dL_refusesAny_80 (by decide) ?_
    refine V_icmp_ne dL_refusesAny_82 (fun z => absurd z (fun z => z rfl)) (fun _ => ?_)
    refine V_aload_n dL_refusesAny_85 rfl ?_
    refine V_iconst (v := 1) dL_refusesAny_86 (by decide) ?_
    refine V_iload_n dL_refusesAny_87 rfl ?_
    refine V_iconst (v := 2) dL_refusesAny_88 (by decide) ?_
    refine V_irem dL_refusesAny_89 (by decide) ?_
    refine V_toe e2 ?_
    refine V_if_ne dL_refusesAny_90 (fun z => absurd z (fun z => z rfl)) (fun _ => ?_)
    refine V_iconst (v := (-1)) dL_refusesAny_93 (by decide) ?_
    refine V_goto dL_refusesAny_94 ?_
    refine V_rq dL_refusesAny_99 kL_54 ykX6_step rfl (q_step_r 1 _ (by decide) (by decide) hD) rfl (Nat.le_of_ble_eq_true rfl) ⟨by decide, by decide, by decide, by decide⟩ (fun D hD => ?_)
    refine V_bipush (v := (-2)) dL_refusesAny_102 (by decide) ?_
    refine V_icmp_ne dL_refusesAny_104 (fun z => absurd z (fun z => z rfl)) (fun _ => ?_)
    refine V_aload_n dL_refusesAny_107 rfl ?_
    refine V_iconst (v := 4) dL_refusesAny_108 (by decide) ?_
    refine V_bipush (v := 30) dL_refusesAny_109 (by decide) ?_
    refine V_rq dL_refusesAny_111 kL_54 ykX6_step rfl (q_step_r 4 30 (by decide) (by decide) hD) rfl (Nat.le_of_ble_eq_true rfl) ⟨by decide, by decide, by decide, by decide⟩ (fun D hD => ?_)
    refine V_bipush (v := (-2)) dL_refusesAny_114 (by decide) ?_
    refine V_icmp_ne dL_refusesAny_116 (fun z => absurd z (fun z => z rfl)) (fun _ => ?_)
    rcases c4 with ho | ⟨ho, -⟩
    · refine V_iload dL_refusesAny_119 rfl ?_
      refine V_if_eq dL_refusesAny_121 (fun _ => ?_) (fun z => absurd (by rw [ho]; rfl) z)
      refine V_aload_n dL_refusesAny_136 rfl ?_
      refine V_rq dL_refusesAny_137 kL_61 ykX6_end rfl (q_end_o ho hI hD) rfl (Nat.le_of_ble_eq_true rfl) ⟨by decide, by decide, by decide, by decide⟩ (fun D hD => ?_)
      refine V_bipush (v := (-4)) dL_refusesAny_140 (by decide) ?_
      refine V_icmp_ne dL_refusesAny_142 (fun z => absurd z (fun z => z rfl)) (fun _ => ?_)
      by_cases ht : tc < 6
      · refine V_aload_n dL_refusesAny_145 rfl ?_
        refine V_iconst (v := 2) dL_refusesAny_146 (by decide) ?_
        refine V_rq dL_refusesAny_147 kL_20 ykX6_total rfl (q_tot2 hI hD) rfl (Nat.le_of_ble_eq_true rfl) ⟨by decide, by decide, by decide, by decide⟩ (fun D hD => ?_)
        refine V_bipush (v := 6) dL_refusesAny_150 (by decide) ?_
        refine V_icmp_lt dL_refusesAny_152 (fun _ => ?_) (fun z => absurd ((clt (by repeat (first | with_reducible rfl | with_reducible exact nlit | with_reducible apply nadd | with_reducible apply nmul | with_reducible apply nsub | with_reducible assumption | omega)) (by repeat (first | with_reducible rfl | with_reducible exact nlit | with_reducible apply nadd | with_reducible apply nmul | with_reducible apply nsub | with_reducible assumption | omega)) (by omega) (by omega)).mpr (by omega)) z)
        exact k164 D hD
      · refine V_aload_n dL_refusesAny_145 rfl ?_
        refine V_iconst (v := 2) dL_refusesAny_146 (by decide) ?_
        refine V_rq dL_refusesAny_147 kL_20 ykX6_total rfl (q_tot2 hI hD) rfl (Nat.le_of_ble_eq_true rfl) ⟨by decide, by decide, by decide, by decide⟩ (fun D hD => ?_)
        refine V_bipush (v := 6) dL_refusesAny_150 (by decide) ?_
        refine V_icmp_lt dL_refusesAny_152 (fun z => absurd z (fun z => absurd ((clt (by repeat (first | with_reducible rfl | with_reducible exact nlit | with_reducible apply nadd | with_reducible apply nmul | with_reducible apply nsub | with_reducible assumption | omega)) (by repeat (first | with_reducible rfl | with_reducible exact nlit | with_reducible apply nadd | with_reducible apply nmul | with_reducible apply nsub | with_reducible assumption | omega)) (by omega) (by omega)).mp z) (by omega))) (fun _ => ?_)
        refine V_aload_n dL_refusesAny_155 rfl ?_
        refine V_rq dL_refusesAny_156 kL_57 ykX6_record rfl (q_record_f ho (by omega) hI hD) rfl (Nat.le_of_ble_eq_true rfl) ⟨by decide, by decide, by decide, by decide⟩ (fun D hD => ?_)
        refine V_bipush (v := (-3)) dL_refusesAny_159 (by decide) ?_
        refine V_icmp_ne dL_refusesAny_161 (fun z => absurd z (fun z => z rfl)) (fun _ => ?_)
        exact k164 D hD
    · refine V_iload dL_refusesAny_119 rfl ?_
      refine V_if_eq dL_refusesAny_121 (fun z => absurd z (by rw [ho]; decide)) (fun _ => ?_)
      refine V_aload_n dL_refusesAny_124 rfl ?_
      refine V_rq dL_refusesAny_125 kL_57 ykX6_record rfl (q_record_o ho hI hD) rfl (Nat.le_of_ble_eq_true rfl) ⟨by decide, by decide, by decide, by decide⟩ (fun D hD => ?_)
      refine V_bipush (v := (-4)) dL_refusesAny_128 (by decide) ?_
      refine V_icmp_ne dL_refusesAny_130 (fun z => absurd z (fun z => z rfl)) (fun _ => ?_)
      refine V_goto dL_refusesAny_133 ?_
      exact k164 D hD
  rcases c4 with ho | ⟨ho, -⟩
  · refine V_aload_n dL_refusesAny_46 rfl ?_
    refine V_iconst (v := 3) dL_refusesAny_47 (by decide) ?_
    refine V_rq dL_refusesAny_48 kL_20 ykX6_total rfl (q_tot3_0 ho hI hD) rfl (Nat.le_of_ble_eq_true rfl) ⟨by decide, by decide, by decide, by decide⟩ (fun D hD => ?_)
    refine V_bipush (v := (-5)) dL_refusesAny_51 (by decide) ?_
    refine V_icmp_eq dL_refusesAny_53 (fun _ => ?_) (fun z => absurd rfl z)
    refine V_iconst (v := 0) dL_refusesAny_60 (by decide) ?_
    refine V_toe (show (0 : Int32) = nI op by rw [ho]; rfl) ?_
    exact k61 D hD
  · have t2 := (iv_tr hI (i := tc) (by omega)).2.1
    refine V_aload_n dL_refusesAny_46 rfl ?_
    refine V_iconst (v := 3) dL_refusesAny_47 (by decide) ?_
    refine V_rq dL_refusesAny_48 kL_20 ykX6_total rfl (q_tot3_1 ho hI hD) rfl (Nat.le_of_ble_eq_true rfl) ⟨by decide, by decide, by decide, by decide⟩ (fun D hD => ?_)
    refine V_bipush (v := (-5)) dL_refusesAny_51 (by decide) ?_
    refine V_icmp_eq dL_refusesAny_53 (fun z => absurd z (n5 (by omega))) (fun _ => ?_)
    refine V_iconst (v := 1) dL_refusesAny_56 (by decide) ?_
    refine V_goto dL_refusesAny_57 ?_
    refine V_toe (show (1 : Int32) = nI op by rw [ho]; rfl) ?_
    exact k61 D hD
set_option maxHeartbeats 8000000 in
theorem ref_odd {X : Nat} {N F : Int32} (hX : X < 2147483648) (hb : X % 2 = 1) (hN : N.toInt < 0 ∨ 6 ≤ N.toInt) (hN2 : (N + nI 1).toInt < 0 ∨ 6 ≤ (N + nI 1).toInt) (hF : F.toInt < 0 ∨ 30 ≤ F.toInt) (hJ : JW C st) (hI : Inv (bk C 1) hd tc op lc tl ll lt) (hD : SC C D) : V G l RL "refusesAny" cL_refusesAny 6 (some .boolean) (rmd 9 0 0) E0 (Qm G (Rq G a C 1) sz 0 0) sz 0 0 46 [some (.ref a), some (.int (nI X)), some (.int N), some (.int F), none, none] [] (B G a D) := by
  obtain ⟨c1, c2, c3, c4⟩ := iv_tc hI
  obtain ⟨c5, c6⟩ := iv_lc hI
  have e2 : nI X - nI X / 2 * 2 = nI 1 := by
    rw [show (2 : Int32) = nI 2 from rfl, pk_rem hX (by decide) (by decide), hb]
  have e3 : nI X - nI X / 3 * 3 = nI (X % 3) := by
    rw [show (3 : Int32) = nI 3 from rfl, pk_rem hX (by decide) (by decide)]
  have t0 : 0 < tc → 1 ≤ tl 0 ∧ tl 0 ≤ 12 := fun z => ⟨iv_t1 hI z, (iv_tr hI (i := 0) (by omega)).2.1⟩
  have z0 : (0 : Int32).toInt = 0 := rfl
  have z5 : (5 : Int32).toInt = 5 := rfl
  have z29 : (29 : Int32).toInt = 29 := rfl
  have sv : ¬ (0 ≤ N ∧ N ≤ 5) := fun z => by
    have q1 := z.1
    have q2 := z.2
    rw [i_le] at q1 q2
    omega
  have sf : ¬ inR 0 F := fun z => by
    have q1 := z.1
    have q2 : F ≤ 29 := z.2
    rw [i_le] at q1 q2
    omega
  have cf : ¬ isIx F 30 := fun z => by
    have := z.1
    have := z.2
    omega
  have k705 : ∀ (D : CT), SC C D → V G l RL "refusesAny" cL_refusesAny 6 (some .boolean) (rmd 9 0 0) E0 (Qm G (Rq G a C 1) sz 0 0) sz 0 0 705 [some (.ref a), some (.int (nI X)), some (.int N), some (.int F), some (.int (nI op)), some (.int 1)] [.int 1] (B G a D) := by
    intro D hD
    refine V_istore dL_refusesAny_705 (by decide) (by dsimp only [List.set] <;> rfl) rfl ?_
    refine V_iload dL_refusesAny_707 rfl ?_
    refine V_if_eq dL_refusesAny_709 (fun z => absurd z (by decide)) (fun _ => ?_)
    refine V_aload_n dL_refusesAny_712 rfl ?_
    refine V_rq dL_refusesAny_713 kL_85 ykX6_clearText rfl (q_clearText hJ hD) rfl (Nat.le_of_ble_eq_true rfl) ⟨by decide, by decide, by decide, by decide⟩ (fun D hD => ?_)
    refine V_if_ne dL_refusesAny_716 (fun z => absurd z (fun z => z rfl)) (fun _ => ?_)
    refine V_aload_n dL_refusesAny_719 rfl ?_
    refine V_rq dL_refusesAny_720 kL_88 ykX6_perform rfl (q_perform hJ hD) rfl (Nat.le_of_ble_eq_true rfl) ⟨by decide, by decide, by decide, by decide⟩ (fun D hD => ?_)
    refine V_bipush (v := (-100)) dL_refusesAny_723 (by decide) ?_
    refine V_icmp_ne dL_refusesAny_725 (fun z => absurd z (fun z => z rfl)) (fun _ => ?_)
    refine V_iconst (v := 1) dL_refusesAny_728 (by decide) ?_
    refine V_goto dL_refusesAny_729 ?_
    refine V_zret dL_refusesAny_733 rfl (by first | rfl | exact bI_nar) rfl rfl ?_
    exact ⟨D, rfl, rfl, hD⟩
  have k583 : ∀ (D : CT), SC C D → V G l RL "refusesAny" cL_refusesAny 6 (some .boolean) (rmd 9 0 0) E0 (Qm G (Rq G a C 1) sz 0 0) sz 0 0 583 [some (.ref a), some (.int (nI X)), some (.int N), some (.int F), some (.int (nI op)), some (.int 1)] [.int 1] (B G a D) := by
    intro D hD
    refine V_istore dL_refusesAny_583 (by decide) (by dsimp only [List.set] <;> rfl) rfl ?_
    refine V_iload dL_refusesAny_585 rfl ?_
    refine V_if_eq dL_refusesAny_587 (fun z => absurd z (by decide)) (fun _ => ?_)
    by_cases hl : lc = 0
    · refine V_aload_n dL_refusesAny_590 rfl ?_
      refine V_iconst (v := 4) dL_refusesAny_591 (by decide) ?_
      refine V_rq dL_refusesAny_592 kL_20 ykX6_total rfl (q_tot4 hI hD) rfl (Nat.le_of_ble_eq_true rfl) ⟨by decide, by decide, by decide, by decide⟩ (fun D hD => ?_)
      refine V_if_eq dL_refusesAny_595 (fun _ => ?_) (fun z => absurd (by rw [hl]; rfl) z)
      refine V_iconst (v := 1) dL_refusesAny_700 (by decide) ?_
      refine V_goto dL_refusesAny_701 ?_
      exact k705 D hD
    · have hl0 : 0 < lc := by omega
      have h1 := (iv_lp hI hl0).2.1
      refine V_aload_n dL_refusesAny_590 rfl ?_
      refine V_iconst (v := 4) dL_refusesAny_591 (by decide) ?_
      refine V_rq dL_refusesAny_592 kL_20 ykX6_total rfl (q_tot4 hI hD) rfl (Nat.le_of_ble_eq_true rfl) ⟨by decide, by decide, by decide, by decide⟩ (fun D hD => ?_)
      refine V_if_eq dL_refusesAny_595 (fun z => absurd z (fun z => hl ((neq (b := 0) (by omega) (by decide)).mp z))) (fun _ => ?_)
      refine V_aload_n dL_refusesAny_598 rfl ?_
      refine V_iconst (v := 0) dL_refusesAny_599 (by decide) ?_
      refine V_iload_n dL_refusesAny_600 rfl ?_
      refine V_iconst (v := 2) dL_refusesAny_601 (by decide) ?_
      refine V_irem dL_refusesAny_602 (by decide) ?_
      refine V_toe e2 ?_
      refine V_if_ne dL_refusesAny_603 (fun _ => ?_) (fun z => absurd z ((by decide)))
      refine V_bipush (v := 100) dL_refusesAny_610 (by decide) ?_
      refine V_iconst (v := 0) dL_refusesAny_612 (by decide) ?_
      refine V_rq dL_refusesAny_613 kL_48 ykX6_ifPlayed rfl (q_ifPlayed_r (n := 0) _ 0 hl0 (by decide) hI hD) rfl (Nat.le_of_ble_eq_true rfl) ⟨by decide, by decide, by decide, by decide⟩ (fun D hD => ?_)
      refine V_bipush (v := (-2)) dL_refusesAny_616 (by decide) ?_
      refine V_icmp_ne dL_refusesAny_618 (fun z => absurd z (fun z => z rfl)) (fun _ => ?_)
      refine V_aload_n dL_refusesAny_621 rfl ?_
      refine V_iconst (v := 0) dL_refusesAny_622 (by decide) ?_
      refine V_iconst (v := 1) dL_refusesAny_623 (by decide) ?_
      refine V_iload_n dL_refusesAny_624 rfl ?_
      refine V_iconst (v := 2) dL_refusesAny_625 (by decide) ?_
      refine V_irem dL_refusesAny_626 (by decide) ?_
      refine V_toe e2 ?_
      refine V_if_ne dL_refusesAny_627 (fun _ => ?_) (fun z => absurd z ((by decide)))
      refine V_iconst (v := 5) dL_refusesAny_634 (by decide) ?_
      refine V_rq dL_refusesAny_635 kL_48 ykX6_ifPlayed rfl (q_ifPlayed_r (n := 0) 1 _ hl0 (by decide) hI hD) rfl (Nat.le_of_ble_eq_true rfl) ⟨by decide, by decide, by decide, by decide⟩ (fun D hD => ?_)
      refine V_bipush (v := (-2)) dL_refusesAny_638 (by decide) ?_
      refine V_icmp_ne dL_refusesAny_640 (fun z => absurd z (fun z => z rfl)) (fun _ => ?_)
      refine V_aload_n dL_refusesAny_643 rfl ?_
      refine V_iconst (v := 0) dL_refusesAny_644 (by decide) ?_
      refine V_iload_n dL_refusesAny_645 rfl ?_
      refine V_bipush (v := 100) dL_refusesAny_646 (by decide) ?_
      refine V_rq dL_refusesAny_648 kL_82 ykX6_fewestTurns rfl (q_fewestTurns_o 0 F 100 (fun z => cf z.2) hI hD) rfl (Nat.le_of_ble_eq_true rfl) ⟨by decide, by decide, by decide, by decide⟩ (fun D hD => ?_)
      refine V_iconst (v := (-1)) dL_refusesAny_651 (by decide) ?_
      refine V_icmp_ne dL_refusesAny_652 (fun z => absurd z (fun z => z rfl)) (fun _ => ?_)
      refine V_aload_n dL_refusesAny_655 rfl ?_
      refine V_iconst (v := 0) dL_refusesAny_656 (by decide) ?_
      refine V_iconst (v := 0) dL_refusesAny_657 (by decide) ?_
      refine V_iload_n dL_refusesAny_658 rfl ?_
      refine V_iconst (v := 2) dL_refusesAny_659 (by decide) ?_
      refine V_irem dL_refusesAny_660 (by decide) ?_
      refine V_toe e2 ?_
      refine V_if_ne dL_refusesAny_661 (fun _ => ?_) (fun z => absurd z ((by decide)))
      refine V_bipush (v := 100) dL_refusesAny_668 (by decide) ?_
      refine V_rq dL_refusesAny_670 kL_82 ykX6_fewestTurns rfl (q_fewestTurns_r (n := 0) (cl := 0) _ hl0 (by decide) (by decide) hI hD) rfl (Nat.le_of_ble_eq_true rfl) ⟨by decide, by decide, by decide, by decide⟩ (fun D hD => ?_)
      refine V_bipush (v := (-2)) dL_refusesAny_673 (by decide) ?_
      refine V_icmp_ne dL_refusesAny_675 (fun z => absurd z (fun z => z rfl)) (fun _ => ?_)
      refine V_aload_n dL_refusesAny_678 rfl ?_
      refine V_iconst (v := 0) dL_refusesAny_679 (by decide) ?_
      refine V_iconst (v := 0) dL_refusesAny_680 (by decide) ?_
      refine V_iload_n dL_refusesAny_681 rfl ?_
      refine V_iconst (v := 2) dL_refusesAny_682 (by decide) ?_
      refine V_irem dL_refusesAny_683 (by decide) ?_
      refine V_toe e2 ?_
      refine V_if_ne dL_refusesAny_684 (fun _ => ?_) (fun z => absurd z ((by decide)))
      refine V_iconst (v := 4) dL_refusesAny_691 (by decide) ?_
      refine V_rq dL_refusesAny_692 kL_31 ykX6_ofLoop rfl (q_oL_r (n := 0) (k := 0) hl0 (by omega) (by decide) hI hD) rfl (Nat.le_of_ble_eq_true rfl) ⟨by decide, by decide, by decide, by decide⟩ (fun D hD => ?_)
      refine V_bipush (v := (-2)) dL_refusesAny_695 (by decide) ?_
      refine V_icmp_ne dL_refusesAny_697 (fun z => absurd z (fun z => z rfl)) (fun _ => ?_)
      refine V_iconst (v := 1) dL_refusesAny_700 (by decide) ?_
      refine V_goto dL_refusesAny_701 ?_
      exact k705 D hD
  have k506 : ∀ (D : CT), SC C D → V G l RL "refusesAny" cL_refusesAny 6 (some .boolean) (rmd 9 0 0) E0 (Qm G (Rq G a C 1) sz 0 0) sz 0 0 506 [some (.ref a), some (.int (nI X)), some (.int N), some (.int F), some (.int (nI op)), some (.int 1)] [] (B G a D) := by
    intro D hD
    refine V_aload_n dL_refusesAny_506 rfl ?_
    refine V_iload_n dL_refusesAny_507 rfl ?_
    refine V_iconst (v := 2) dL_refusesAny_508 (by decide) ?_
    refine V_irem dL_refusesAny_509 (by decide) ?_
    refine V_toe e2 ?_
    refine V_if_ne dL_refusesAny_510 (fun _ => ?_) (fun z => absurd z ((by decide)))
    refine V_iconst (v := 2) dL_refusesAny_517 (by decide) ?_
    refine V_rq dL_refusesAny_518 kL_42 ykX6_bestPair rfl (q_bestPair_o _ (by decide) hD) rfl (Nat.le_of_ble_eq_true rfl) ⟨by decide, by decide, by decide, by decide⟩ (fun D hD => ?_)
    refine V_bipush (v := (-2)) dL_refusesAny_521 (by decide) ?_
    refine V_icmp_ne dL_refusesAny_523 (fun z => absurd z (fun z => z rfl)) (fun _ => ?_)
    refine V_aload_n dL_refusesAny_526 rfl ?_
    refine V_iload_n dL_refusesAny_527 rfl ?_
    refine V_iconst (v := 0) dL_refusesAny_528 (by decide) ?_
    refine V_rq dL_refusesAny_529 kL_51 ykX6_fits rfl (q_fits_o N 0 (fun z => nIxi hN c6 z.1) hI hD) rfl (Nat.le_of_ble_eq_true rfl) ⟨by decide, by decide, by decide, by decide⟩ (fun D hD => ?_)
    refine V_iconst (v := (-1)) dL_refusesAny_532 (by decide) ?_
    refine V_icmp_ne dL_refusesAny_533 (fun z => absurd z (fun z => z rfl)) (fun _ => ?_)
    refine V_aload_n dL_refusesAny_536 rfl ?_
    refine V_iconst (v := 0) dL_refusesAny_537 (by decide) ?_
    refine V_iload_n dL_refusesAny_538 rfl ?_
    refine V_rq dL_refusesAny_539 kL_51 ykX6_fits rfl (q_fits_o 0 N (fun z => nIxi hN c2 z.2) hI hD) rfl (Nat.le_of_ble_eq_true rfl) ⟨by decide, by decide, by decide, by decide⟩ (fun D hD => ?_)
    refine V_iconst (v := (-1)) dL_refusesAny_542 (by decide) ?_
    refine V_icmp_ne dL_refusesAny_543 (fun z => absurd z (fun z => z rfl)) (fun _ => ?_)
    refine V_aload_n dL_refusesAny_546 rfl ?_
    refine V_iload_n dL_refusesAny_547 rfl ?_
    refine V_rq dL_refusesAny_548 kL_45 ykX6_mostTurns rfl (q_mostTurns_o N (nIxi hN c6) hI hD) rfl (Nat.le_of_ble_eq_true rfl) ⟨by decide, by decide, by decide, by decide⟩ (fun D hD => ?_)
    refine V_iconst (v := (-1)) dL_refusesAny_551 (by decide) ?_
    refine V_icmp_ne dL_refusesAny_552 (fun z => absurd z (fun z => z rfl)) (fun _ => ?_)
    refine V_aload_n dL_refusesAny_555 rfl ?_
    refine V_iload_n dL_refusesAny_556 rfl ?_
    refine V_iconst (v := 0) dL_refusesAny_557 (by decide) ?_
    refine V_bipush (v := 9) dL_refusesAny_558 (by decide) ?_
    refine V_rq dL_refusesAny_560 kL_48 ykX6_ifPlayed rfl (q_ifPlayed_o N 0 9 (nIxi hN c6) hI hD) rfl (Nat.le_of_ble_eq_true rfl) ⟨by decide, by decide, by decide, by decide⟩ (fun D hD => ?_)
    refine V_iconst (v := (-1)) dL_refusesAny_563 (by decide) ?_
    refine V_icmp_ne dL_refusesAny_564 (fun z => absurd z (fun z => z rfl)) (fun _ => ?_)
    refine V_aload_n dL_refusesAny_567 rfl ?_
    refine V_iload_n dL_refusesAny_568 rfl ?_
    refine V_iconst (v := 0) dL_refusesAny_569 (by decide) ?_
    refine V_iconst (v := 0) dL_refusesAny_570 (by decide) ?_
    refine V_rq dL_refusesAny_571 kL_82 ykX6_fewestTurns rfl (q_fewestTurns_o N 0 0 (fun z => nIxi hN c6 z.1) hI hD) rfl (Nat.le_of_ble_eq_true rfl) ⟨by decide, by decide, by decide, by decide⟩ (fun D hD => ?_)
    refine V_iconst (v := (-1)) dL_refusesAny_574 (by decide) ?_
    refine V_icmp_ne dL_refusesAny_575 (fun z => absurd z (fun z => z rfl)) (fun _ => ?_)
    refine V_iconst (v := 1) dL_refusesAny_578 (by decide) ?_
    refine V_goto dL_refusesAny_579 ?_
    exact k583 D hD
  have k329 : ∀ (D : CT), SC C D → V G l RL "refusesAny" cL_refusesAny 6 (some .boolean) (rmd 9 0 0) E0 (Qm G (Rq G a C 1) sz 0 0) sz 0 0 329 [some (.ref a), some (.int (nI X)), some (.int N), some (.int F), some (.int (nI op)), none] [.int 1] (B G a D) := by
    intro D hD
    refine V_istore dL_refusesAny_329 (by decide) (by dsimp only [List.set] <;> rfl) rfl ?_
    refine V_iload dL_refusesAny_331 rfl ?_
    refine V_if_eq dL_refusesAny_333 (fun z => absurd z (by decide)) (fun _ => ?_)
    refine V_aload_n dL_refusesAny_336 rfl ?_
    refine V_iload_n dL_refusesAny_337 rfl ?_
    refine V_rq dL_refusesAny_338 kL_14 ykX6_cell rfl (q_cl_o cf hD) rfl (Nat.le_of_ble_eq_true rfl) ⟨by decide, by decide, by decide, by decide⟩ (fun D hD => ?_)
    refine V_iconst (v := (-1)) dL_refusesAny_341 (by decide) ?_
    refine V_icmp_ne dL_refusesAny_342 (fun z => absurd z (fun z => z rfl)) (fun _ => ?_)
    refine V_aload_n dL_refusesAny_345 rfl ?_
    refine V_iload_n dL_refusesAny_346 rfl ?_
    refine V_iload_n dL_refusesAny_347 rfl ?_
    refine V_iconst (v := 2) dL_refusesAny_348 (by decide) ?_
    refine V_irem dL_refusesAny_349 (by decide) ?_
    refine V_toe e2 ?_
    refine V_iadd dL_refusesAny_350 ?_
    refine V_iconst (v := 0) dL_refusesAny_351 (by decide) ?_
    refine V_bipush (v := 9) dL_refusesAny_352 (by decide) ?_
    refine V_rq dL_refusesAny_354 kL_23 ykX6_ofTry rfl (q_oT_o (nIxi hN2 (by omega)) hI hD) rfl (Nat.le_of_ble_eq_true rfl) ⟨by decide, by decide, by decide, by decide⟩ (fun D hD => ?_)
    refine V_iconst (v := (-1)) dL_refusesAny_357 (by decide) ?_
    refine V_icmp_ne dL_refusesAny_358 (fun z => absurd z (fun z => z rfl)) (fun _ => ?_)
    refine V_aload_n dL_refusesAny_361 rfl ?_
    refine V_iload_n dL_refusesAny_362 rfl ?_
    refine V_iconst (v := 0) dL_refusesAny_363 (by decide) ?_
    refine V_bipush (v := 9) dL_refusesAny_364 (by decide) ?_
    refine V_rq dL_refusesAny_366 kL_31 ykX6_ofLoop rfl (q_oL_o (nIxi hN c6) hI hD) rfl (Nat.le_of_ble_eq_true rfl) ⟨by decide, by decide, by decide, by decide⟩ (fun D hD => ?_)
    refine V_iconst (v := (-1)) dL_refusesAny_369 (by decide) ?_
    refine V_icmp_ne dL_refusesAny_370 (fun z => absurd z (fun z => z rfl)) (fun _ => ?_)
    refine V_aload_n dL_refusesAny_373 rfl ?_
    refine V_iload_n dL_refusesAny_374 rfl ?_
    refine V_iconst (v := 3) dL_refusesAny_375 (by decide) ?_
    refine V_rq dL_refusesAny_376 kL_27 ykX6_length rfl (q_len_r (by decide) hI hD) rfl (Nat.le_of_ble_eq_true rfl) ⟨by decide, by decide, by decide, by decide⟩ (fun D hD => ?_)
    refine V_bipush (v := (-2)) dL_refusesAny_379 (by decide) ?_
    refine V_icmp_ne dL_refusesAny_381 (fun z => absurd z (fun z => z rfl)) (fun _ => ?_)
    refine V_aload_n dL_refusesAny_384 rfl ?_
    refine V_iload_n dL_refusesAny_385 rfl ?_
    refine V_iload_n dL_refusesAny_386 rfl ?_
    refine V_iconst (v := 3) dL_refusesAny_387 (by decide) ?_
    refine V_irem dL_refusesAny_388 (by decide) ?_
    refine V_toe e3 ?_
    refine V_rq dL_refusesAny_389 kL_27 ykX6_length rfl (q_len_no (Nat.mod_lt _ (by decide)) (nIxi hN c2) (nIxi hN c6) hI hD) rfl (Nat.le_of_ble_eq_true rfl) ⟨by decide, by decide, by decide, by decide⟩ (fun D hD => ?_)
    refine V_iconst (v := (-1)) dL_refusesAny_392 (by decide) ?_
    refine V_icmp_ne dL_refusesAny_393 (fun z => absurd z (fun z => z rfl)) (fun _ => ?_)
    refine V_aload_n dL_refusesAny_396 rfl ?_
    refine V_iload_n dL_refusesAny_397 rfl ?_
    refine V_iconst (v := 2) dL_refusesAny_398 (by decide) ?_
    refine V_irem dL_refusesAny_399 (by decide) ?_
    refine V_toe e2 ?_
    refine V_if_ne dL_refusesAny_400 (fun _ => ?_) (fun z => absurd z ((by decide)))
    refine V_bipush (v := 12) dL_refusesAny_407 (by decide) ?_
    refine V_rq dL_refusesAny_409 kL_20 ykX6_total rfl (q_total_r _ (by decide) hD) rfl (Nat.le_of_ble_eq_true rfl) ⟨by decide, by decide, by decide, by decide⟩ (fun D hD => ?_)
    refine V_bipush (v := (-2)) dL_refusesAny_412 (by decide) ?_
    refine V_icmp_ne dL_refusesAny_414 (fun z => absurd z (fun z => z rfl)) (fun _ => ?_)
    refine V_aload_n dL_refusesAny_417 rfl ?_
    refine V_iload_n dL_refusesAny_418 rfl ?_
    refine V_iconst (v := 0) dL_refusesAny_419 (by decide) ?_
    refine V_bipush (v := 9) dL_refusesAny_420 (by decide) ?_
    refine V_rq dL_refusesAny_422 kL_36 ykX6_alike rfl (q_alike_o N 0 9 (fun z => nIxi hN c2 z.1) hI hD) rfl (Nat.le_of_ble_eq_true rfl) ⟨by decide, by decide, by decide, by decide⟩ (fun D hD => ?_)
    refine V_iconst (v := (-1)) dL_refusesAny_425 (by decide) ?_
    refine V_icmp_ne dL_refusesAny_426 (fun z => absurd z (fun z => z rfl)) (fun _ => ?_)
    by_cases ht : tc = 0
    · refine V_aload_n dL_refusesAny_429 rfl ?_
      refine V_iconst (v := 2) dL_refusesAny_430 (by decide) ?_
      refine V_rq dL_refusesAny_431 kL_20 ykX6_total rfl (q_tot2 hI hD) rfl (Nat.le_of_ble_eq_true rfl) ⟨by decide, by decide, by decide, by decide⟩ (fun D hD => ?_)
      refine V_if_eq dL_refusesAny_434 (fun _ => ?_) (fun z => absurd (by rw [ht]; rfl) z)
      exact k506 D hD
    · have ht0 : 0 < tc := by omega
      obtain ⟨t1, t2⟩ := t0 ht0
      refine V_aload_n dL_refusesAny_429 rfl ?_
      refine V_iconst (v := 2) dL_refusesAny_430 (by decide) ?_
      refine V_rq dL_refusesAny_431 kL_20 ykX6_total rfl (q_tot2 hI hD) rfl (Nat.le_of_ble_eq_true rfl) ⟨by decide, by decide, by decide, by decide⟩ (fun D hD => ?_)
      refine V_if_eq dL_refusesAny_434 (fun z => absurd z (fun z => ht ((neq (b := 0) (by omega) (by decide)).mp z))) (fun _ => ?_)
      refine V_aload_n dL_refusesAny_437 rfl ?_
      refine V_iconst (v := 0) dL_refusesAny_438 (by decide) ?_
      refine V_iload_n dL_refusesAny_439 rfl ?_
      refine V_bipush (v := 9) dL_refusesAny_440 (by decide) ?_
      refine V_rq dL_refusesAny_442 kL_36 ykX6_alike rfl (q_alike_o 0 N 9 (fun z => nIxi hN c2 z.2) hI hD) rfl (Nat.le_of_ble_eq_true rfl) ⟨by decide, by decide, by decide, by decide⟩ (fun D hD => ?_)
      refine V_iconst (v := (-1)) dL_refusesAny_445 (by decide) ?_
      refine V_icmp_ne dL_refusesAny_446 (fun z => absurd z (fun z => z rfl)) (fun _ => ?_)
      refine V_aload_n dL_refusesAny_449 rfl ?_
      refine V_iconst (v := 0) dL_refusesAny_450 (by decide) ?_
      refine V_iconst (v := 0) dL_refusesAny_451 (by decide) ?_
      refine V_iload_n dL_refusesAny_452 rfl ?_
      refine V_iconst (v := 2) dL_refusesAny_453 (by decide) ?_
      refine V_irem dL_refusesAny_454 (by decide) ?_
      refine V_toe e2 ?_
      refine V_if_ne dL_refusesAny_455 (fun _ => ?_) (fun z => absurd z ((by decide)))
      refine V_iconst (v := 2) dL_refusesAny_462 (by decide) ?_
      refine V_rq dL_refusesAny_463 kL_36 ykX6_alike rfl (q_alike_r (i := 0) (j := 0) _ ht0 ht0 (by decide) hI hD) rfl (Nat.le_of_ble_eq_true rfl) ⟨by decide, by decide, by decide, by decide⟩ (fun D hD => ?_)
      refine V_bipush (v := (-2)) dL_refusesAny_466 (by decide) ?_
      refine V_icmp_ne dL_refusesAny_468 (fun z => absurd z (fun z => z rfl)) (fun _ => ?_)
      refine V_aload_n dL_refusesAny_471 rfl ?_
      refine V_iconst (v := 0) dL_refusesAny_472 (by decide) ?_
      refine V_iconst (v := 0) dL_refusesAny_473 (by decide) ?_
      refine V_iload_n dL_refusesAny_474 rfl ?_
      refine V_iconst (v := 2) dL_refusesAny_475 (by decide) ?_
      refine V_irem dL_refusesAny_476 (by decide) ?_
      refine V_toe e2 ?_
      refine V_if_ne dL_refusesAny_477 (fun _ => ?_) (fun z => absurd z ((by decide)))
      refine V_iconst (v := 2) dL_refusesAny_484 (by decide) ?_
      refine V_rq dL_refusesAny_485 kL_23 ykX6_ofTry rfl (q_oT_r (n := 0) (k := 0) (by omega) (by omega) (by decide) hI hD) rfl (Nat.le_of_ble_eq_true rfl) ⟨by decide, by decide, by decide, by decide⟩ (fun D hD => ?_)
      refine V_bipush (v := (-2)) dL_refusesAny_488 (by decide) ?_
      refine V_icmp_ne dL_refusesAny_490 (fun z => absurd z (fun z => z rfl)) (fun _ => ?_)
      refine V_aload_n dL_refusesAny_493 rfl ?_
      refine V_iconst (v := 0) dL_refusesAny_494 (by decide) ?_
      refine V_bipush (v := 12) dL_refusesAny_495 (by decide) ?_
      refine V_bipush (v := 9) dL_refusesAny_497 (by decide) ?_
      refine V_rq dL_refusesAny_499 kL_23 ykX6_ofTry rfl (q_oT_s (n := 0) (x2 := nI 12) (by omega) (nIx t2 (by decide)) hI hD) rfl (Nat.le_of_ble_eq_true rfl) ⟨by decide, by decide, by decide, by decide⟩ (fun D hD => ?_)
      refine V_iconst (v := (-1)) dL_refusesAny_502 (by decide) ?_
      refine V_icmp_ne dL_refusesAny_503 (fun z => absurd z (fun z => z rfl)) (fun _ => ?_)
      exact k506 D hD
  have k225 : ∀ (D : CT), SC C D → V G l RL "refusesAny" cL_refusesAny 6 (some .boolean) (rmd 9 0 0) E0 (Qm G (Rq G a C 1) sz 0 0) sz 0 0 225 [some (.ref a), some (.int (nI X)), some (.int N), some (.int F), some (.int (nI op)), none] [] (B G a D) := by
    intro D hD
    refine V_aload_n dL_refusesAny_225 rfl ?_
    refine V_iload_n dL_refusesAny_226 rfl ?_
    refine V_rq dL_refusesAny_227 kL_70 ykX6_fold rfl (q_fold_o N (nIxi hN c2) hI hD) rfl (Nat.le_of_ble_eq_true rfl) ⟨by decide, by decide, by decide, by decide⟩ (fun D hD => ?_)
    refine V_iconst (v := (-1)) dL_refusesAny_230 (by decide) ?_
    refine V_icmp_ne dL_refusesAny_231 (fun z => absurd z (fun z => z rfl)) (fun _ => ?_)
    refine V_aload_n dL_refusesAny_234 rfl ?_
    refine V_iload_n dL_refusesAny_235 rfl ?_
    refine V_bipush (v := 100) dL_refusesAny_236 (by decide) ?_
    refine V_rq dL_refusesAny_238 kL_73 ykX6_setTurns rfl (q_setTurns_o N 100 (nIxi hN c6) hI hD) rfl (Nat.le_of_ble_eq_true rfl) ⟨by decide, by decide, by decide, by decide⟩ (fun D hD => ?_)
    refine V_iconst (v := (-1)) dL_refusesAny_241 (by decide) ?_
    refine V_icmp_ne dL_refusesAny_242 (fun z => absurd z (fun z => z rfl)) (fun _ => ?_)
    refine V_aload_n dL_refusesAny_245 rfl ?_
    refine V_iload_n dL_refusesAny_246 rfl ?_
    refine V_rq dL_refusesAny_247 kL_76 ykX6_dropLoop rfl (q_dropLoop_o N (nIxi hN c6) hI hD) rfl (Nat.le_of_ble_eq_true rfl) ⟨by decide, by decide, by decide, by decide⟩ (fun D hD => ?_)
    refine V_iconst (v := (-1)) dL_refusesAny_250 (by decide) ?_
    refine V_icmp_ne dL_refusesAny_251 (fun z => absurd z (fun z => z rfl)) (fun _ => ?_)
    refine V_aload_n dL_refusesAny_254 rfl ?_
    refine V_iload_n dL_refusesAny_255 rfl ?_
    refine V_rq dL_refusesAny_256 kL_79 ykX6_play rfl (q_play_x N (nIxi hN c6) hI hD) rfl (Nat.le_of_ble_eq_true rfl) ⟨by decide, by decide, by decide, by decide⟩ (fun D hD => ?_)
    refine V_iconst (v := (-1)) dL_refusesAny_259 (by decide) ?_
    refine V_icmp_ne dL_refusesAny_260 (fun z => absurd z (fun z => z rfl)) (fun _ => ?_)
    by_cases hl : lc = 0
    · refine V_aload_n dL_refusesAny_263 rfl ?_
      refine V_iconst (v := 4) dL_refusesAny_264 (by decide) ?_
      refine V_rq dL_refusesAny_265 kL_20 ykX6_total rfl (q_tot4 hI hD) rfl (Nat.le_of_ble_eq_true rfl) ⟨by decide, by decide, by decide, by decide⟩ (fun D hD => ?_)
      refine V_if_eq dL_refusesAny_268 (fun _ => ?_) (fun z => absurd (by rw [hl]; rfl) z)
      refine V_iconst (v := 1) dL_refusesAny_324 (by decide) ?_
      refine V_goto dL_refusesAny_325 ?_
      exact k329 D hD
    · have hl0 : 0 < lc := by omega
      refine V_aload_n dL_refusesAny_263 rfl ?_
      refine V_iconst (v := 4) dL_refusesAny_264 (by decide) ?_
      refine V_rq dL_refusesAny_265 kL_20 ykX6_total rfl (q_tot4 hI hD) rfl (Nat.le_of_ble_eq_true rfl) ⟨by decide, by decide, by decide, by decide⟩ (fun D hD => ?_)
      refine V_if_eq dL_refusesAny_268 (fun z => absurd z (fun z => hl ((neq (b := 0) (by omega) (by decide)).mp z))) (fun _ => ?_)
      refine V_aload_n dL_refusesAny_271 rfl ?_
      refine V_iconst (v := 0) dL_refusesAny_272 (by decide) ?_
      refine V_iload_n dL_refusesAny_273 rfl ?_
      refine V_iconst (v := 2) dL_refusesAny_274 (by decide) ?_
      refine V_irem dL_refusesAny_275 (by decide) ?_
      refine V_toe e2 ?_
      refine V_if_ne dL_refusesAny_276 (fun _ => ?_) (fun z => absurd z ((by decide)))
      refine V_bipush (v := 100) dL_refusesAny_283 (by decide) ?_
      refine V_rq dL_refusesAny_285 kL_73 ykX6_setTurns rfl (q_setTurns_r (n := 0) _ hl0 (by decide) hI hD) rfl (Nat.le_of_ble_eq_true rfl) ⟨by decide, by decide, by decide, by decide⟩ (fun D hD => ?_)
      refine V_bipush (v := (-2)) dL_refusesAny_288 (by decide) ?_
      refine V_icmp_ne dL_refusesAny_290 (fun z => absurd z (fun z => z rfl)) (fun _ => ?_)
      refine V_aload_n dL_refusesAny_293 rfl ?_
      refine V_iconst (v := 0) dL_refusesAny_294 (by decide) ?_
      refine V_aload_n dL_refusesAny_295 rfl ?_
      refine V_iconst (v := 0) dL_refusesAny_296 (by decide) ?_
      refine V_iconst (v := 2) dL_refusesAny_297 (by decide) ?_
      refine V_rq dL_refusesAny_298 kL_27 ykX6_length rfl (q_len2 (n := 0) hl0 hI hD) rfl (Nat.le_of_ble_eq_true rfl) ⟨by decide, by decide, by decide, by decide⟩ (fun D hD => ?_)
      refine V_rq dL_refusesAny_301 kL_73 ykX6_setTurns rfl (q_setTurns_s (n := 0) hl0 hI hD) rfl (Nat.le_of_ble_eq_true rfl) ⟨by decide, by decide, by decide, by decide⟩ (fun D hD => ?_)
      refine V_bipush (v := (-5)) dL_refusesAny_304 (by decide) ?_
      refine V_icmp_ne dL_refusesAny_306 (fun z => absurd z (fun z => z rfl)) (fun _ => ?_)
      rcases c4 with ho | ⟨ho, -⟩
      · refine V_iload dL_refusesAny_309 rfl ?_
        refine V_if_eq dL_refusesAny_311 (fun _ => ?_) (fun z => absurd (by rw [ho]; rfl) z)
        refine V_iconst (v := 1) dL_refusesAny_324 (by decide) ?_
        refine V_goto dL_refusesAny_325 ?_
        exact k329 D hD
      · refine V_iload dL_refusesAny_309 rfl ?_
        refine V_if_eq dL_refusesAny_311 (fun z => absurd z (by rw [ho]; decide)) (fun _ => ?_)
        refine V_aload_n dL_refusesAny_314 rfl ?_
        refine V_iconst (v := 0) dL_refusesAny_315 (by decide) ?_
        refine V_rq dL_refusesAny_316 kL_79 ykX6_play rfl (q_play_o (n := 0) hl0 ho hI hD) rfl (Nat.le_of_ble_eq_true rfl) ⟨by decide, by decide, by decide, by decide⟩ (fun D hD => ?_)
        refine V_bipush (v := (-4)) dL_refusesAny_319 (by decide) ?_
        refine V_icmp_ne dL_refusesAny_321 (fun z => absurd z (fun z => z rfl)) (fun _ => ?_)
        refine V_iconst (v := 1) dL_refusesAny_324 (by decide) ?_
        refine V_goto dL_refusesAny_325 ?_
        exact k329 D hD
  have k164 : ∀ (D : CT), SC C D → V G l RL "refusesAny" cL_refusesAny 6 (some .boolean) (rmd 9 0 0) E0 (Qm G (Rq G a C 1) sz 0 0) sz 0 0 164 [some (.ref a), some (.int (nI X)), some (.int N), some (.int F), some (.int (nI op)), none] [] (B G a D) := by
    intro D hD
    refine V_aload_n dL_refusesAny_164 rfl ?_
    refine V_iload_n dL_refusesAny_165 rfl ?_
    refine V_rq dL_refusesAny_166 kL_64 ykX6_dropTry rfl (q_dropTry_o N (nIxi hN c2) hI hD) rfl (Nat.le_of_ble_eq_true rfl) ⟨by decide, by decide, by decide, by decide⟩ (fun D hD => ?_)
    refine V_iconst (v := (-1)) dL_refusesAny_169 (by decide) ?_
    refine V_icmp_ne dL_refusesAny_170 (fun z => absurd z (fun z => z rfl)) (fun _ => ?_)
    refine V_aload_n dL_refusesAny_173 rfl ?_
    refine V_aload_n dL_refusesAny_174 rfl ?_
    refine V_iconst (v := 2) dL_refusesAny_175 (by decide) ?_
    refine V_rq dL_refusesAny_176 kL_20 ykX6_total rfl (q_tot2 hI hD) rfl (Nat.le_of_ble_eq_true rfl) ⟨by decide, by decide, by decide, by decide⟩ (fun D hD => ?_)
    refine V_rq dL_refusesAny_179 kL_64 ykX6_dropTry rfl (q_dropTry_o (nI tc) (nIx (Nat.le_refl _) (by omega)) hI hD) rfl (Nat.le_of_ble_eq_true rfl) ⟨by decide, by decide, by decide, by decide⟩ (fun D hD => ?_)
    refine V_iconst (v := (-1)) dL_refusesAny_182 (by decide) ?_
    refine V_icmp_ne dL_refusesAny_183 (fun z => absurd z (fun z => z rfl)) (fun _ => ?_)
    refine V_aload_n dL_refusesAny_186 rfl ?_
    refine V_iload_n dL_refusesAny_187 rfl ?_
    refine V_iconst (v := 0) dL_refusesAny_188 (by decide) ?_
    refine V_rq dL_refusesAny_189 kL_67 ykX6_generalise rfl (q_generalise_o N 0 (fun z => nIxi hN c2 z.1) hI hD) rfl (Nat.le_of_ble_eq_true rfl) ⟨by decide, by decide, by decide, by decide⟩ (fun D hD => ?_)
    refine V_iconst (v := (-1)) dL_refusesAny_192 (by decide) ?_
    refine V_icmp_ne dL_refusesAny_193 (fun z => absurd z (fun z => z rfl)) (fun _ => ?_)
    by_cases ht : tc = 0
    · refine V_aload_n dL_refusesAny_196 rfl ?_
      refine V_iconst (v := 2) dL_refusesAny_197 (by decide) ?_
      refine V_rq dL_refusesAny_198 kL_20 ykX6_total rfl (q_tot2 hI hD) rfl (Nat.le_of_ble_eq_true rfl) ⟨by decide, by decide, by decide, by decide⟩ (fun D hD => ?_)
      refine V_if_eq dL_refusesAny_201 (fun _ => ?_) (fun z => absurd (by rw [ht]; rfl) z)
      exact k225 D hD
    · have ht0 : 0 < tc := by omega
      refine V_aload_n dL_refusesAny_196 rfl ?_
      refine V_iconst (v := 2) dL_refusesAny_197 (by decide) ?_
      refine V_rq dL_refusesAny_198 kL_20 ykX6_total rfl (q_tot2 hI hD) rfl (Nat.le_of_ble_eq_true rfl) ⟨by decide, by decide, by decide, by decide⟩ (fun D hD => ?_)
      refine V_if_eq dL_refusesAny_201 (fun z => absurd z (fun z => ht ((neq (b := 0) (by omega) (by decide)).mp z))) (fun _ => ?_)
      refine V_aload_n dL_refusesAny_204 rfl ?_
      refine V_iconst (v := 0) dL_refusesAny_205 (by decide) ?_
      refine V_iload_n dL_refusesAny_206 rfl ?_
      refine V_rq dL_refusesAny_207 kL_67 ykX6_generalise rfl (q_generalise_o 0 N (fun z => nIxi hN c2 z.2) hI hD) rfl (Nat.le_of_ble_eq_true rfl) ⟨by decide, by decide, by decide, by decide⟩ (fun D hD => ?_)
      refine V_iconst (v := (-1)) dL_refusesAny_210 (by decide) ?_
      refine V_icmp_ne dL_refusesAny_211 (fun z => absurd z (fun z => z rfl)) (fun _ => ?_)
      refine V_aload_n dL_refusesAny_214 rfl ?_
      refine V_iconst (v := 0) dL_refusesAny_215 (by decide) ?_
      refine V_iconst (v := 0) dL_refusesAny_216 (by decide) ?_
      refine V_rq dL_refusesAny_217 kL_67 ykX6_generalise rfl (q_generalise_n (i := 0) (j := 0) ht0 ht0 (fun z => z.1 rfl) hI hD) rfl (Nat.le_of_ble_eq_true rfl) ⟨by decide, by decide, by decide, by decide⟩ (fun D hD => ?_)
      refine V_bipush (v := (-4)) dL_refusesAny_220 (by decide) ?_
      refine V_icmp_ne dL_refusesAny_222 (fun z => absurd z (fun z => z rfl)) (fun _ => ?_)
      exact k225 D hD
  have k61 : ∀ (D : CT), SC C D → V G l RL "refusesAny" cL_refusesAny 6 (some .boolean) (rmd 9 0 0) E0 (Qm G (Rq G a C 1) sz 0 0) sz 0 0 61 [some (.ref a), some (.int (nI X)), some (.int N), some (.int F), none, none] [.int (nI op)] (B G a D) := by
    intro D hD
    refine V_istore dL_refusesAny_61 (by decide) (by dsimp only [List.set] <;> rfl) rfl ?_
    refine V_aload_n dL_refusesAny_63 rfl ?_
    refine V_iload_n dL_refusesAny_64 rfl ?_
    refine V_bipush (v := 100) dL_refusesAny_65 (by decide) ?_
    refine V_rq dL_refusesAny_67 kL_54 ykX6_step rfl (q_step_v N 100 sv hD) rfl (Nat.le_of_ble_eq_true rfl) ⟨by decide, by decide, by decide, by decide⟩ (fun D hD => ?_)
    refine V_iconst (v := (-1)) dL_refusesAny_70 (by decide) ?_
    refine V_icmp_ne dL_refusesAny_71 (fun z => absurd z (fun z => z rfl)) (fun _ => ?_)
    refine V_aload_n dL_refusesAny_74 rfl ?_
    refine V_iconst (v := 0) dL_refusesAny_75 (by decide) ?_
    refine V_iload_n dL_refusesAny_76 rfl ?_
    refine V_rq dL_refusesAny_77 kL_54 ykX6_step rfl (q_step_r 0 F (by decide) sf hD) rfl (Nat.le_of_ble_eq_true rfl) ⟨by decide, by decide, by decide, by decide⟩ (fun D hD => ?_)
    refine V_bipush (v := (-2)) dL_refusesAny_80 (by decide) ?_
    refine V_icmp_ne dL_refusesAny_82 (fun z => absurd z (fun z => z rfl)) (fun _ => ?_)
    refine V_aload_n dL_refusesAny_85 rfl ?_
    refine V_iconst (v := 1) dL_refusesAny_86 (by decide) ?_
    refine V_iload_n dL_refusesAny_87 rfl ?_
    refine V_iconst (v := 2) dL_refusesAny_88 (by decide) ?_
    refine V_irem dL_refusesAny_89 (by decide) ?_
    refine V_toe e2 ?_
    refine V_if_ne dL_refusesAny_90 (fun _ => ?_) (fun z => absurd z ((by decide)))
    refine V_bipush (v := 100) dL_refusesAny_97 (by decide) ?_
    refine V_rq dL_refusesAny_99 kL_54 ykX6_step rfl (q_step_r 1 _ (by decide) (by decide) hD) rfl (Nat.le_of_ble_eq_true rfl) ⟨by decide, by decide, by decide, by decide⟩ (fun D hD => ?_)
    refine V_bipush (v := (-2)) dL_refusesAny_102 (by decide) ?_
    refine V_icmp_ne dL_refusesAny_104 (fun z => absurd z (fun z => z rfl)) (fun _ => ?_)
    refine V_aload_n dL_refusesAny_107 rfl ?_
    refine V_iconst (v := 4) dL_refusesAny_108 (by decide) ?_
    refine V_bipush (v := 30) dL_refusesAny_109 (by decide) ?_
    refine V_rq dL_refusesAny_111 kL_54 ykX6_step rfl (q_step_r 4 30 (by decide) (by decide) hD) rfl (Nat.le_of_ble_eq_true rfl) ⟨by decide, by decide, by decide, by decide⟩ (fun D hD => ?_)
    refine V_bipush (v := (-2)) dL_refusesAny_114 (by decide) ?_
    refine V_icmp_ne dL_refusesAny_116 (fun z => absurd z (fun z => z rfl)) (fun _ => ?_)
    rcases c4 with ho | ⟨ho, -⟩
    · refine V_iload dL_refusesAny_119 rfl ?_
      refine V_if_eq dL_refusesAny_121 (fun _ => ?_) (fun z => absurd (by rw [ho]; rfl) z)
      refine V_aload_n dL_refusesAny_136 rfl ?_
      refine V_rq dL_refusesAny_137 kL_61 ykX6_end rfl (q_end_o ho hI hD) rfl (Nat.le_of_ble_eq_true rfl) ⟨by decide, by decide, by decide, by decide⟩ (fun D hD => ?_)
      refine V_bipush (v := (-4)) dL_refusesAny_140 (by decide) ?_
      refine V_icmp_ne dL_refusesAny_142 (fun z => absurd z (fun z => z rfl)) (fun _ => ?_)
      by_cases ht : tc < 6
      · refine V_aload_n dL_refusesAny_145 rfl ?_
        refine V_iconst (v := 2) dL_refusesAny_146 (by decide) ?_
        refine V_rq dL_refusesAny_147 kL_20 ykX6_total rfl (q_tot2 hI hD) rfl (Nat.le_of_ble_eq_true rfl) ⟨by decide, by decide, by decide, by decide⟩ (fun D hD => ?_)
        refine V_bipush (v := 6) dL_refusesAny_150 (by decide) ?_
        refine V_icmp_lt dL_refusesAny_152 (fun _ => ?_) (fun z => absurd ((clt (by repeat (first | with_reducible rfl | with_reducible exact nlit | with_reducible apply nadd | with_reducible apply nmul | with_reducible apply nsub | with_reducible assumption | omega)) (by repeat (first | with_reducible rfl | with_reducible exact nlit | with_reducible apply nadd | with_reducible apply nmul | with_reducible apply nsub | with_reducible assumption | omega)) (by omega) (by omega)).mpr (by omega)) z)
        exact k164 D hD
      · refine V_aload_n dL_refusesAny_145 rfl ?_
        refine V_iconst (v := 2) dL_refusesAny_146 (by decide) ?_
        refine V_rq dL_refusesAny_147 kL_20 ykX6_total rfl (q_tot2 hI hD) rfl (Nat.le_of_ble_eq_true rfl) ⟨by decide, by decide, by decide, by decide⟩ (fun D hD => ?_)
        refine V_bipush (v := 6) dL_refusesAny_150 (by decide) ?_
        refine V_icmp_lt dL_refusesAny_152 (fun z => absurd z (fun z => absurd ((clt (by repeat (first | with_reducible rfl | with_reducible exact nlit | with_reducible apply nadd | with_reducible apply nmul | with_reducible apply nsub | with_reducible assumption | omega)) (by repeat (first | with_reducible rfl | with_reducible exact nlit | with_reducible apply nadd | with_reducible apply nmul | with_reducible apply nsub | with_reducible assumption | omega)) (by omega) (by omega)).mp z) (by omega))) (fun _ => ?_)
        refine V_aload_n dL_refusesAny_155 rfl ?_
        refine V_rq dL_refusesAny_156 kL_57 ykX6_record rfl (q_record_f ho (by omega) hI hD) rfl (Nat.le_of_ble_eq_true rfl) ⟨by decide, by decide, by decide, by decide⟩ (fun D hD => ?_)
        refine V_bipush (v := (-3)) dL_refusesAny_159 (by decide) ?_
        refine V_icmp_ne dL_refusesAny_161 (fun z => absurd z (fun z => z rfl)) (fun _ => ?_)
        exact k164 D hD
    · refine V_iload dL_refusesAny_119 rfl ?_
      refine V_if_eq dL_refusesAny_121 (fun z => absurd z (by rw [ho]; decide)) (fun _ => ?_)
      refine V_aload_n dL_refusesAny_124 rfl ?_
      refine V_rq dL_refusesAny_125 kL_57 ykX6_record rfl (q_record_o ho hI hD) rfl (Nat.le_of_ble_eq_true rfl) ⟨by decide, by decide, by decide, by decide⟩ (fun D hD => ?_)
      refine V_bipush (v := (-4)) dL_refusesAny_128 (by decide) ?_
      refine V_icmp_ne dL_refusesAny_130 (fun z => absurd z (fun z => z rfl)) (fun _ => ?_)
      refine V_goto dL_refusesAny_133 ?_
      exact k164 D hD
  rcases c4 with ho | ⟨ho, -⟩
  · refine V_aload_n dL_refusesAny_46 rfl ?_
    refine V_iconst (v := 3) dL_refusesAny_47 (by decide) ?_
    refine V_rq dL_refusesAny_48 kL_20 ykX6_total rfl (q_tot3_0 ho hI hD) rfl (Nat.le_of_ble_eq_true rfl) ⟨by decide, by decide, by decide, by decide⟩ (fun D hD => ?_)
    refine V_bipush (v := (-5)) dL_refusesAny_51 (by decide) ?_
    refine V_icmp_eq dL_refusesAny_53 (fun _ => ?_) (fun z => absurd rfl z)
    refine V_iconst (v := 0) dL_refusesAny_60 (by decide) ?_
    refine V_toe (show (0 : Int32) = nI op by rw [ho]; rfl) ?_
    exact k61 D hD
  · have t2 := (iv_tr hI (i := tc) (by omega)).2.1
    refine V_aload_n dL_refusesAny_46 rfl ?_
    refine V_iconst (v := 3) dL_refusesAny_47 (by decide) ?_
    refine V_rq dL_refusesAny_48 kL_20 ykX6_total rfl (q_tot3_1 ho hI hD) rfl (Nat.le_of_ble_eq_true rfl) ⟨by decide, by decide, by decide, by decide⟩ (fun D hD => ?_)
    refine V_bipush (v := (-5)) dL_refusesAny_51 (by decide) ?_
    refine V_icmp_eq dL_refusesAny_53 (fun z => absurd z (n5 (by omega))) (fun _ => ?_)
    refine V_iconst (v := 1) dL_refusesAny_56 (by decide) ?_
    refine V_goto dL_refusesAny_57 ?_
    refine V_toe (show (1 : Int32) = nI op by rw [ho]; rfl) ?_
    exact k61 D hD
set_option maxHeartbeats 4000000 in
theorem tL_refusesAny {X : Nat} (hX : X < 2147483648) (hJ : JW C st) (hI : Inv (bk C 1) hd tc op lc tl ll lt) (hD : SC C D) : Ct G l yL_refusesAny cL_refusesAny 6 (some .boolean) 9 0 0 sz [.ref a, .int (nI X)] (B G a D) (Rq G a C 1) := by
  have e99 : nI X - nI X / 99 * 99 = nI (X % 99) := by
    rw [show (99 : Int32) = nI 99 from rfl, pk_rem hX (by decide) (by decide)]
  have e2 : nI X - nI X / 2 * 2 = nI (X % 2) := by
    rw [show (2 : Int32) = nI 2 from rfl, pk_rem hX (by decide) (by decide)]
  have h99 : X % 99 < 99 := Nat.mod_lt _ (by decide)
  refine Ct.of (own := RL) (mn := "refusesAny") (L0 := [some (.ref a), some (.int (nI X)), none, none, none, none]) (by decide +kernel) rfl rfl rfl (Nat.le_of_ble_eq_true rfl) rfl ?_
  refine V_iload_n dL_refusesAny_0 rfl ?_
  refine V_iconst (v := 2) dL_refusesAny_1 (by decide) ?_
  refine V_irem dL_refusesAny_2 (by decide) ?_
  refine V_toe e2 ?_
  rcases (show X % 2 = 0 ∨ X % 2 = 1 by omega) with hb | hb
  · rw [hb] at e2 ⊢
    have m1 : (-1 - nI (X % 99)).toInt = -1 - (X % 99 : Nat) := by
      rw [Int32.toInt_sub, nI_toInt (by omega)]
      have z1 : (-1 : Int32).toInt = -1 := rfl
      rw [z1]
      exact Int.bmod_eq_of_le (by omega) (by omega)
    refine V_if_ne dL_refusesAny_3 (fun z => absurd z (fun z => z rfl)) (fun _ => ?_)
    refine V_iconst (v := (-1)) dL_refusesAny_6 (by decide) ?_
    refine V_iload_n dL_refusesAny_7 rfl ?_
    refine V_bipush (v := 99) dL_refusesAny_8 (by decide) ?_
    refine V_irem dL_refusesAny_10 (by decide) ?_
    refine V_toe e99 ?_
    refine V_isub dL_refusesAny_11 ?_
    refine V_goto dL_refusesAny_12 ?_
    refine V_istore_n dL_refusesAny_22 (by decide) (by dsimp only [List.set] <;> rfl) rfl ?_
    refine V_iload_n dL_refusesAny_23 rfl ?_
    refine V_iconst (v := 2) dL_refusesAny_24 (by decide) ?_
    refine V_irem dL_refusesAny_25 (by decide) ?_
    refine V_toe e2 ?_
    refine V_if_ne dL_refusesAny_26 (fun z => absurd z (fun z => z rfl)) (fun _ => ?_)
    refine V_iconst (v := (-1)) dL_refusesAny_29 (by decide) ?_
    refine V_iload_n dL_refusesAny_30 rfl ?_
    refine V_bipush (v := 99) dL_refusesAny_31 (by decide) ?_
    refine V_irem dL_refusesAny_33 (by decide) ?_
    refine V_toe e99 ?_
    refine V_isub dL_refusesAny_34 ?_
    refine V_goto dL_refusesAny_35 ?_
    refine V_istore_n dL_refusesAny_45 (by decide) (by dsimp only [List.set] <;> rfl) rfl ?_
    exact ref_even hX hb (by omega) (by rw [show nI 0 = (0 : Int32) from rfl, i_add0]; omega) (by omega) hJ hI hD
  · rw [hb] at e2 ⊢
    have m1 : (6 : Int32) + nI (X % 99) = nI (6 + X % 99) := nadd (nlit (n := 6)) rfl
    have m2 : (30 : Int32) + nI (X % 99) = nI (30 + X % 99) := nadd (nlit (n := 30)) rfl
    refine V_if_ne dL_refusesAny_3 (fun _ => ?_) (fun z => absurd z ((by decide)))
    refine V_bipush (v := 6) dL_refusesAny_15 (by decide) ?_
    refine V_iload_n dL_refusesAny_17 rfl ?_
    refine V_bipush (v := 99) dL_refusesAny_18 (by decide) ?_
    refine V_irem dL_refusesAny_20 (by decide) ?_
    refine V_toe e99 ?_
    refine V_iadd dL_refusesAny_21 ?_
    refine V_toe m1 ?_
    refine V_istore_n dL_refusesAny_22 (by decide) (by dsimp only [List.set] <;> rfl) rfl ?_
    refine V_iload_n dL_refusesAny_23 rfl ?_
    refine V_iconst (v := 2) dL_refusesAny_24 (by decide) ?_
    refine V_irem dL_refusesAny_25 (by decide) ?_
    refine V_toe e2 ?_
    refine V_if_ne dL_refusesAny_26 (fun _ => ?_) (fun z => absurd z ((by decide)))
    refine V_bipush (v := 30) dL_refusesAny_38 (by decide) ?_
    refine V_iload_n dL_refusesAny_40 rfl ?_
    refine V_bipush (v := 99) dL_refusesAny_41 (by decide) ?_
    refine V_irem dL_refusesAny_43 (by decide) ?_
    refine V_toe e99 ?_
    refine V_iadd dL_refusesAny_44 ?_
    refine V_toe m2 ?_
    refine V_istore_n dL_refusesAny_45 (by decide) (by dsimp only [List.set] <;> rfl) rfl ?_
    exact ref_odd hX hb (by rw [nI_toInt (by omega)]; omega) (by rw [nI_add, nI_toInt (by omega)]; omega) (by rw [nI_toInt (by omega)]; omega) hJ hI hD
theorem cmp_self {x : Int64} : lg_cmp x x = 0 := by simp [lg_cmp]
set_option maxHeartbeats 4000000 in
theorem tL_refuses {X : Nat} (hX : X < 2147483648) (hJ : JW C st) (hI : Inv (bk C 1) hd tc op lc tl ll lt) (hD : SC C D) : Ct G l yL_refuses cL_refuses 5 (some .boolean) 10 0 0 sz [.ref a, .int (nI X)] (B G a D) (Rq G a C 1) := by
  refine Ct.of (own := RL) (mn := "refuses") (L0 := [some (.ref a), some (.int (nI X)), none, none, none]) (by decide +kernel) rfl rfl rfl (Nat.le_of_ble_eq_true rfl) rfl ?_
  refine V_aload_n dL_refuses_0 rfl ?_
  refine V_callS dL_refuses_1 kL_91 ykL_seen (tL_seen hI hD) rfl (Nat.le_of_ble_eq_true rfl) ⟨by decide, by decide, by decide, by decide⟩ (fun r h' q => ?_)
  obtain ⟨D, rfl, rfl, hD⟩ := q
  refine V_lstore_n dL_refuses_4 (by decide) (by dsimp only [List.set] <;> rfl) rfl ?_
  refine V_aload_n dL_refuses_5 rfl ?_
  refine V_bipush (v := 10) dL_refuses_6 (by decide) ?_
  refine V_rq dL_refuses_8 kL_20 ykX6_total rfl (q_tot10 hJ hI hD) rfl (Nat.le_of_ble_eq_true rfl) ⟨by decide, by decide, by decide, by decide⟩ (fun D hD => ?_)
  refine V_istore dL_refuses_11 (by decide) (by dsimp only [List.set] <;> rfl) rfl ?_
  refine V_aload_n dL_refuses_13 rfl ?_
  refine V_iload_n dL_refuses_14 rfl ?_
  refine V_rqS dL_refuses_15 kL_95 ykL_refusesAny (tL_refusesAny hX hJ hI hD) rfl (Nat.le_of_ble_eq_true rfl) ⟨by decide, by decide, by decide, by decide⟩ (fun D hD => ?_)
  refine V_if_eq dL_refuses_18 (fun z => absurd z (by decide)) (fun _ => ?_)
  refine V_aload_n dL_refuses_21 rfl ?_
  refine V_callS dL_refuses_22 kL_91 ykL_seen (tL_seen hI hD) rfl (Nat.le_of_ble_eq_true rfl) ⟨by decide, by decide, by decide, by decide⟩ (fun r h' q => ?_)
  obtain ⟨D, rfl, rfl, hD⟩ := q
  refine V_lload_n dL_refuses_25 rfl ?_
  refine V_lcmp dL_refuses_26 ?_
  refine V_toe cmp_self ?_
  refine V_if_ne dL_refuses_27 (fun z => absurd z (fun z => z rfl)) (fun _ => ?_)
  refine V_aload_n dL_refuses_30 rfl ?_
  refine V_bipush (v := 10) dL_refuses_31 (by decide) ?_
  refine V_rq dL_refuses_33 kL_20 ykX6_total rfl (q_tot10 hJ hI hD) rfl (Nat.le_of_ble_eq_true rfl) ⟨by decide, by decide, by decide, by decide⟩ (fun D hD => ?_)
  refine V_iload dL_refuses_36 rfl ?_
  refine V_icmp_ne dL_refuses_38 (fun z => absurd z (fun z => z rfl)) (fun _ => ?_)
  refine V_iconst (v := 1) dL_refuses_41 (by decide) ?_
  refine V_goto dL_refuses_42 ?_
  refine V_zret dL_refuses_46 rfl (by first | rfl | exact bI_nar) rfl rfl ?_
  exact ⟨D, rfl, rfl, hD⟩
end LAW
