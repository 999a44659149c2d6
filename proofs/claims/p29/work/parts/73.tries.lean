/-! The law: areTries. -/
section LAW
variable {G : GT} {l : Launch} {sz a st hd tc op lc : Nat} {tl ll lt : Nat → Nat} {C D : CT} {h : Hp}
theorem n5 {n : Nat} (h : n < 1000000) : ¬ nI n = -5 := fun z => by
  have := congrArg Int32.toInt z
  rw [nI_toInt (by omega)] at this
  have z5 : (-5 : Int32).toInt = -5 := rfl
  omega
set_option maxHeartbeats 4000000 in
theorem tL_areTries (hI : Inv (bk C 1) hd tc op lc tl ll lt) (hD : SC C D) : Ct G l yL_areTries cL_areTries 9 (some .boolean) 5 0 0 sz [.ref a] (B G a D) (Rq G a C 1) := by
  obtain ⟨c1, c2, c3, c4⟩ := iv_tc hI
  have hr := rN_le (lk := lkC C tl) tc
  have kE : ∀ (x4 x5 x6 x7 x8 : Option Value) (D : CT), SC C D → V G l RL "areTries" cL_areTries 9 (some .boolean) (rmd 5 0 0) E0 (Qm G (Rq G a C 1) sz 0 0) sz 0 0 374 [some (.ref a), some (.int (nI tc)), some (.int (nI op)), some (.int 1), x4, x5, x6, x7, x8] [] (B G a D) := by
    intro x4 x5 x6 x7 x8 D hD
    rcases bp_ex hI with ⟨b1, b2, b3⟩ | ⟨p, q, h1, h2, h3, h4, b1, b2, b3⟩
    · refine V_aload_n dL_areTries_374 rfl ?_
      refine V_iconst (v := 0) dL_areTries_375 (by decide) ?_
      refine V_rq dL_areTries_376 kL_42 ykX6_bestPair rfl (Rq_e b1 (q_bestPair 0 (by decide) hI hD)) rfl (Nat.le_of_ble_eq_true rfl) ⟨by decide, by decide, by decide, by decide⟩ (fun D hD => ?_)
      refine V_istore dL_areTries_379 (by decide) (by dsimp only [List.set] <;> rfl) rfl ?_
      refine V_aload_n dL_areTries_381 rfl ?_
      refine V_iconst (v := 1) dL_areTries_382 (by decide) ?_
      refine V_rq dL_areTries_383 kL_42 ykX6_bestPair rfl (Rq_e b2 (q_bestPair 1 (by decide) hI hD)) rfl (Nat.le_of_ble_eq_true rfl) ⟨by decide, by decide, by decide, by decide⟩ (fun D hD => ?_)
      refine V_istore dL_areTries_386 (by decide) (by dsimp only [List.set] <;> rfl) rfl ?_
      refine V_iload_n dL_areTries_388 rfl ?_
      refine V_if_eq dL_areTries_389 (fun z => absurd z (by decide)) (fun _ => ?_)
      refine V_iload dL_areTries_392 rfl ?_
      refine V_bipush (v := (-5)) dL_areTries_394 (by decide) ?_
      refine V_icmp_ne dL_areTries_396 (fun z => absurd z (fun z => z rfl)) (fun _ => ?_)
      refine V_iconst (v := 1) dL_areTries_399 (by decide) ?_
      refine V_goto dL_areTries_400 ?_
      refine V_aload_n dL_areTries_404 rfl ?_
      refine V_bipush (v := 9) dL_areTries_405 (by decide) ?_
      refine V_rq dL_areTries_407 kL_20 ykX6_total rfl (q_tot9 hI hD) rfl (Nat.le_of_ble_eq_true rfl) ⟨by decide, by decide, by decide, by decide⟩ (fun D hD => ?_)
      refine V_iload_n dL_areTries_410 rfl ?_
      refine V_icmp_ne dL_areTries_411 (fun z => absurd z (fun z => z (by rw [b3]))) (fun _ => ?_)
      refine V_iconst (v := 1) dL_areTries_414 (by decide) ?_
      refine V_goto dL_areTries_415 ?_
      refine V_icmp_ne dL_areTries_419 (fun z => absurd z (fun z => z rfl)) (fun _ => ?_)
      refine V_iload dL_areTries_422 rfl ?_
      refine V_bipush (v := (-5)) dL_areTries_424 (by decide) ?_
      refine V_icmp_ne dL_areTries_426 (fun z => absurd z (fun z => z rfl)) (fun _ => ?_)
      refine V_iload dL_areTries_429 rfl ?_
      refine V_bipush (v := (-5)) dL_areTries_431 (by decide) ?_
      refine V_icmp_ne dL_areTries_433 (fun z => absurd z (fun z => z rfl)) (fun _ => ?_)
      refine V_goto dL_areTries_436 ?_
      refine V_iconst (v := 1) dL_areTries_537 (by decide) ?_
      refine V_goto dL_areTries_538 ?_
      refine V_zret dL_areTries_542 rfl (by first | rfl | exact bI_nar) rfl rfl ?_
      exact ⟨D, rfl, rfl, hD⟩
    · have e1 : nI (10 * p + q) / 10 = nI p := by
        rw [show (10 : Int32) = nI 10 from rfl, pk_div (by omega) (by decide) (by decide)]
        exact congrArg nI (by omega)
      have e2 : nI (10 * p + q) - nI (10 * p + q) / 10 * 10 = nI q := by
        rw [show (10 : Int32) = nI 10 from rfl, pk_rem (by omega) (by decide) (by decide)]
        exact congrArg nI (by omega)
      have g1 := cN_le (f := nT C p) (g := nT C q) (tl p)
      have g2 := (iv_tr hI (i := p) (by omega)).2.1
      have g3 := al_cn h4
      have g4 := lc_li (e := eqC C p q 1) (j := tl p) (tl p)
      have a0 := fun (D : CT) => q_alike (D := D) (G := G) (l := l) (sz := sz + 0) (a := a) (i := p) (j := q) 0 (Or.inl rfl) (by omega) h2 hI
      have a1 := fun (D : CT) => q_alike (D := D) (G := G) (l := l) (sz := sz + 0) (a := a) (i := p) (j := q) 1 (Or.inr rfl) (by omega) h2 hI
      rw [← h3, al_lik h4] at a0
      rw [← h3] at a1
      refine V_aload_n dL_areTries_374 rfl ?_
      refine V_iconst (v := 0) dL_areTries_375 (by decide) ?_
      refine V_rq dL_areTries_376 kL_42 ykX6_bestPair rfl (Rq_e b1 (q_bestPair 0 (by decide) hI hD)) rfl (Nat.le_of_ble_eq_true rfl) ⟨by decide, by decide, by decide, by decide⟩ (fun D hD => ?_)
      refine V_istore dL_areTries_379 (by decide) (by dsimp only [List.set] <;> rfl) rfl ?_
      refine V_aload_n dL_areTries_381 rfl ?_
      refine V_iconst (v := 1) dL_areTries_382 (by decide) ?_
      refine V_rq dL_areTries_383 kL_42 ykX6_bestPair rfl (Rq_e b2 (q_bestPair 1 (by decide) hI hD)) rfl (Nat.le_of_ble_eq_true rfl) ⟨by decide, by decide, by decide, by decide⟩ (fun D hD => ?_)
      refine V_istore dL_areTries_386 (by decide) (by dsimp only [List.set] <;> rfl) rfl ?_
      refine V_iload_n dL_areTries_388 rfl ?_
      refine V_if_eq dL_areTries_389 (fun z => absurd z (by decide)) (fun _ => ?_)
      refine V_iload dL_areTries_392 rfl ?_
      refine V_bipush (v := (-5)) dL_areTries_394 (by decide) ?_
      refine V_icmp_ne dL_areTries_396 (fun _ => ?_) (fun z => absurd z ((n5 (by omega))))
      refine V_iconst (v := 0) dL_areTries_403 (by decide) ?_
      refine V_aload_n dL_areTries_404 rfl ?_
      refine V_bipush (v := 9) dL_areTries_405 (by decide) ?_
      refine V_rq dL_areTries_407 kL_20 ykX6_total rfl (q_tot9 hI hD) rfl (Nat.le_of_ble_eq_true rfl) ⟨by decide, by decide, by decide, by decide⟩ (fun D hD => ?_)
      refine V_iload_n dL_areTries_410 rfl ?_
      refine V_icmp_ne dL_areTries_411 (fun _ => ?_) (fun z => absurd z ((fun z => b3 ((neq (by omega) (by omega)).mp z))))
      refine V_iconst (v := 0) dL_areTries_418 (by decide) ?_
      refine V_icmp_ne dL_areTries_419 (fun z => absurd z (fun z => z rfl)) (fun _ => ?_)
      refine V_iload dL_areTries_422 rfl ?_
      refine V_bipush (v := (-5)) dL_areTries_424 (by decide) ?_
      refine V_icmp_ne dL_areTries_426 (fun _ => ?_) (fun z => absurd z ((n5 (by omega))))
      refine V_iload dL_areTries_439 rfl ?_
      refine V_bipush (v := 10) dL_areTries_441 (by decide) ?_
      refine V_idiv dL_areTries_443 (by decide) ?_
      refine V_toe e1 ?_
      refine V_iload dL_areTries_444 rfl ?_
      refine V_bipush (v := 10) dL_areTries_446 (by decide) ?_
      refine V_irem dL_areTries_448 (by decide) ?_
      refine V_toe e2 ?_
      refine V_icmp_ge dL_areTries_449 (fun z => absurd z (fun z => absurd ((cle (by repeat (first | with_reducible rfl | with_reducible exact nlit | with_reducible apply nadd | with_reducible apply nmul | with_reducible apply nsub | with_reducible assumption | omega)) (by repeat (first | with_reducible rfl | with_reducible exact nlit | with_reducible apply nadd | with_reducible apply nmul | with_reducible apply nsub | with_reducible assumption | omega)) (by omega) (by omega)).mp z) (by omega))) (fun _ => ?_)
      refine V_iload dL_areTries_452 rfl ?_
      refine V_bipush (v := 10) dL_areTries_454 (by decide) ?_
      refine V_irem dL_areTries_456 (by decide) ?_
      refine V_toe e2 ?_
      refine V_iload_n dL_areTries_457 rfl ?_
      refine V_icmp_ge dL_areTries_458 (fun z => absurd z (fun z => absurd ((cle (by repeat (first | with_reducible rfl | with_reducible exact nlit | with_reducible apply nadd | with_reducible apply nmul | with_reducible apply nsub | with_reducible assumption | omega)) (by repeat (first | with_reducible rfl | with_reducible exact nlit | with_reducible apply nadd | with_reducible apply nmul | with_reducible apply nsub | with_reducible assumption | omega)) (by omega) (by omega)).mp z) (by omega))) (fun _ => ?_)
      refine V_aload_n dL_areTries_461 rfl ?_
      refine V_iload dL_areTries_462 rfl ?_
      refine V_bipush (v := 10) dL_areTries_464 (by decide) ?_
      refine V_idiv dL_areTries_466 (by decide) ?_
      refine V_toe e1 ?_
      refine V_iconst (v := 0) dL_areTries_467 (by decide) ?_
      refine V_rq dL_areTries_468 kL_27 ykX6_length rfl (q_len0 (by omega) hI hD) rfl (Nat.le_of_ble_eq_true rfl) ⟨by decide, by decide, by decide, by decide⟩ (fun D hD => ?_)
      refine V_aload_n dL_areTries_471 rfl ?_
      refine V_iload dL_areTries_472 rfl ?_
      refine V_bipush (v := 10) dL_areTries_474 (by decide) ?_
      refine V_irem dL_areTries_476 (by decide) ?_
      refine V_toe e2 ?_
      refine V_iconst (v := 0) dL_areTries_477 (by decide) ?_
      refine V_rq dL_areTries_478 kL_27 ykX6_length rfl (q_len0 h2 hI hD) rfl (Nat.le_of_ble_eq_true rfl) ⟨by decide, by decide, by decide, by decide⟩ (fun D hD => ?_)
      refine V_icmp_ne dL_areTries_481 (fun z => absurd z (fun z => z (by rw [h3]))) (fun _ => ?_)
      refine V_aload_n dL_areTries_484 rfl ?_
      refine V_iload dL_areTries_485 rfl ?_
      refine V_bipush (v := 10) dL_areTries_487 (by decide) ?_
      refine V_idiv dL_areTries_489 (by decide) ?_
      refine V_toe e1 ?_
      refine V_iload dL_areTries_490 rfl ?_
      refine V_bipush (v := 10) dL_areTries_492 (by decide) ?_
      refine V_irem dL_areTries_494 (by decide) ?_
      refine V_toe e2 ?_
      refine V_iconst (v := 0) dL_areTries_495 (by decide) ?_
      refine V_rq dL_areTries_496 kL_36 ykX6_alike rfl (a0 _ hD) rfl (Nat.le_of_ble_eq_true rfl) ⟨by decide, by decide, by decide, by decide⟩ (fun D hD => ?_)
      refine V_aload_n dL_areTries_499 rfl ?_
      refine V_iload dL_areTries_500 rfl ?_
      refine V_bipush (v := 10) dL_areTries_502 (by decide) ?_
      refine V_idiv dL_areTries_504 (by decide) ?_
      refine V_toe e1 ?_
      refine V_iconst (v := 0) dL_areTries_505 (by decide) ?_
      refine V_rq dL_areTries_506 kL_27 ykX6_length rfl (q_len0 (by omega) hI hD) rfl (Nat.le_of_ble_eq_true rfl) ⟨by decide, by decide, by decide, by decide⟩ (fun D hD => ?_)
      refine V_icmp_ne dL_areTries_509 (fun z => absurd z (fun z => z rfl)) (fun _ => ?_)
      refine V_iload dL_areTries_512 rfl ?_
      refine V_if_lt dL_areTries_514 (fun z => absurd z (fun z => absurd ((clt (by repeat (first | with_reducible rfl | with_reducible exact nlit | with_reducible apply nadd | with_reducible apply nmul | with_reducible apply nsub | with_reducible assumption | omega)) (by repeat (first | with_reducible rfl | with_reducible exact nlit | with_reducible apply nadd | with_reducible apply nmul | with_reducible apply nsub | with_reducible assumption | omega)) (by omega) (by omega)).mp z) (by omega))) (fun _ => ?_)
      refine V_iload dL_areTries_517 rfl ?_
      refine V_aload_n dL_areTries_519 rfl ?_
      refine V_iload dL_areTries_520 rfl ?_
      refine V_bipush (v := 10) dL_areTries_522 (by decide) ?_
      refine V_idiv dL_areTries_524 (by decide) ?_
      refine V_toe e1 ?_
      refine V_iload dL_areTries_525 rfl ?_
      refine V_bipush (v := 10) dL_areTries_527 (by decide) ?_
      refine V_irem dL_areTries_529 (by decide) ?_
      refine V_toe e2 ?_
      refine V_iconst (v := 1) dL_areTries_530 (by decide) ?_
      refine V_rq dL_areTries_531 kL_36 ykX6_alike rfl (a1 _ hD) rfl (Nat.le_of_ble_eq_true rfl) ⟨by decide, by decide, by decide, by decide⟩ (fun D hD => ?_)
      refine V_icmp_gt dL_areTries_534 (fun z => absurd z (fun z => absurd ((clt (by repeat (first | with_reducible rfl | with_reducible exact nlit | with_reducible apply nadd | with_reducible apply nmul | with_reducible apply nsub | with_reducible assumption | omega)) (by repeat (first | with_reducible rfl | with_reducible exact nlit | with_reducible apply nadd | with_reducible apply nmul | with_reducible apply nsub | with_reducible assumption | omega)) (by omega) (by omega)).mp z) (by omega))) (fun _ => ?_)
      refine V_iconst (v := 1) dL_areTries_537 (by decide) ?_
      refine V_goto dL_areTries_538 ?_
      refine V_zret dL_areTries_542 rfl (by first | rfl | exact bI_nar) rfl rfl ?_
      exact ⟨D, rfl, rfl, hD⟩
  have kN : ∀ (m n : Nat) (x5 x6 x7 x8 : Option Value) (D : CT), SC C D → n + m = tc → V G l RL "areTries" cL_areTries 9 (some .boolean) (rmd 5 0 0) E0 (Qm G (Rq G a C 1) sz 0 0) sz 0 0 105 [some (.ref a), some (.int (nI tc)), some (.int (nI op)), some (.int 1), some (.int (nI n)), x5, x6, x7, x8] [] (B G a D) := by
    intro m
    induction m with
    | zero =>
      intro n x5 x6 x7 x8 D hD hn
      refine V_iload dL_areTries_105 rfl ?_
      refine V_iload_n dL_areTries_107 rfl ?_
      refine V_icmp_ge dL_areTries_108 (fun _ => ?_) (fun z => absurd ((cle (by repeat (first | with_reducible rfl | with_reducible exact nlit | with_reducible apply nadd | with_reducible apply nmul | with_reducible apply nsub | with_reducible assumption | omega)) (by repeat (first | with_reducible rfl | with_reducible exact nlit | with_reducible apply nadd | with_reducible apply nmul | with_reducible apply nsub | with_reducible assumption | omega)) (by omega) (by omega)).mpr (by omega)) z)
      exact kE _ x5 x6 x7 x8 D hD
    | succ m ih =>
      intro n x5 x6 x7 x8 D hD hn
      have hn' : n < tc := by omega
      obtain ⟨t1, t2, t3⟩ := iv_tr hI (i := n) (by omega)
      have t4 := iv_t1 hI hn'
      have kO : ∀ (q o : Nat) (x7 x8 : Option Value) (D : CT), SC C D → o + q = n → V G l RL "areTries" cL_areTries 9 (some .boolean) (rmd 5 0 0) E0 (Qm G (Rq G a C 1) sz 0 0) sz 0 0 264 [some (.ref a), some (.int (nI tc)), some (.int (nI op)), some (.int 1), some (.int (nI n)), some (.int (nI (tl n))), some (.int (nI o)), x7, x8] [] (B G a D) := by
        intro q
        induction q with
        | zero =>
          intro o x7 x8 D hD ho
          refine V_iload dL_areTries_264 rfl ?_
          refine V_iload dL_areTries_266 rfl ?_
          refine V_icmp_ge dL_areTries_268 (fun _ => ?_) (fun z => absurd ((cle (by repeat (first | with_reducible rfl | with_reducible exact nlit | with_reducible apply nadd | with_reducible apply nmul | with_reducible apply nsub | with_reducible assumption | omega)) (by repeat (first | with_reducible rfl | with_reducible exact nlit | with_reducible apply nadd | with_reducible apply nmul | with_reducible apply nsub | with_reducible assumption | omega)) (by omega) (by omega)).mpr (by omega)) z)
          refine V_iinc dL_areTries_368 rfl (ninc _) (by decide) (by dsimp only [List.set] <;> rfl) ?_
          refine V_goto dL_areTries_371 ?_
          exact ih (n + 1) _ _ x7 x8 D hD (by omega)
        | succ q ihq =>
          intro o x7 x8 D hD ho
          have ho' : o < tc := by omega
          obtain ⟨s1, s2, -⟩ := iv_tr hI (i := o) (by omega)
          have a0 := fun (D : CT) => q_alike (D := D) (G := G) (l := l) (sz := sz + 0) (a := a) (i := o) (j := n) 0 (Or.inl rfl) ho' hn' hI
          have a1 := fun (D : CT) => q_alike (D := D) (G := G) (l := l) (sz := sz + 0) (a := a) (i := o) (j := n) 1 (Or.inr rfl) ho' hn' hI
          rw [al_sym] at a0 a1
          have g1 := al_mono (C := C) (i := n) (j := o) (p := tl n) (q := tl o)
          have g2 := lc_li (e := eqC C n o 0) (j := tl o) (tl n)
          have g3 := lc_lj (e := eqC C n o 0) (i := tl n) (tl o)
          refine V_iload dL_areTries_264 rfl ?_
          refine V_iload dL_areTries_266 rfl ?_
          refine V_icmp_ge dL_areTries_268 (fun z => absurd z (fun z => absurd ((cle (by repeat (first | with_reducible rfl | with_reducible exact nlit | with_reducible apply nadd | with_reducible apply nmul | with_reducible apply nsub | with_reducible assumption | omega)) (by repeat (first | with_reducible rfl | with_reducible exact nlit | with_reducible apply nadd | with_reducible apply nmul | with_reducible apply nsub | with_reducible assumption | omega)) (by omega) (by omega)).mp z) (by omega))) (fun _ => ?_)
          refine V_iload_n dL_areTries_271 rfl ?_
          refine V_if_eq dL_areTries_272 (fun z => absurd z (by decide)) (fun _ => ?_)
          refine V_aload_n dL_areTries_275 rfl ?_
          refine V_iload dL_areTries_276 rfl ?_
          refine V_iload dL_areTries_278 rfl ?_
          refine V_iconst (v := 0) dL_areTries_280 (by decide) ?_
          refine V_rq dL_areTries_281 kL_36 ykX6_alike rfl (q_alike 0 (Or.inl rfl) hn' ho' hI hD) rfl (Nat.le_of_ble_eq_true rfl) ⟨by decide, by decide, by decide, by decide⟩ (fun D hD => ?_)
          refine V_istore dL_areTries_284 (by decide) (by dsimp only [List.set] <;> rfl) rfl ?_
          refine V_aload_n dL_areTries_286 rfl ?_
          refine V_iload dL_areTries_287 rfl ?_
          refine V_iload dL_areTries_289 rfl ?_
          refine V_iconst (v := 1) dL_areTries_291 (by decide) ?_
          refine V_rq dL_areTries_292 kL_36 ykX6_alike rfl (q_alike 1 (Or.inr rfl) hn' ho' hI hD) rfl (Nat.le_of_ble_eq_true rfl) ⟨by decide, by decide, by decide, by decide⟩ (fun D hD => ?_)
          refine V_istore dL_areTries_295 (by decide) (by dsimp only [List.set] <;> rfl) rfl ?_
          refine V_iload dL_areTries_297 rfl ?_
          refine V_aload_n dL_areTries_299 rfl ?_
          refine V_iload dL_areTries_300 rfl ?_
          refine V_iload dL_areTries_302 rfl ?_
          refine V_iconst (v := 0) dL_areTries_304 (by decide) ?_
          refine V_rq dL_areTries_305 kL_36 ykX6_alike rfl (a0 _ hD) rfl (Nat.le_of_ble_eq_true rfl) ⟨by decide, by decide, by decide, by decide⟩ (fun D hD => ?_)
          refine V_icmp_ne dL_areTries_308 (fun z => absurd z (fun z => z rfl)) (fun _ => ?_)
          refine V_iload dL_areTries_311 rfl ?_
          refine V_aload_n dL_areTries_313 rfl ?_
          refine V_iload dL_areTries_314 rfl ?_
          refine V_iload dL_areTries_316 rfl ?_
          refine V_iconst (v := 1) dL_areTries_318 (by decide) ?_
          refine V_rq dL_areTries_319 kL_36 ykX6_alike rfl (a1 _ hD) rfl (Nat.le_of_ble_eq_true rfl) ⟨by decide, by decide, by decide, by decide⟩ (fun D hD => ?_)
          refine V_icmp_ne dL_areTries_322 (fun z => absurd z (fun z => z rfl)) (fun _ => ?_)
          refine V_iload dL_areTries_325 rfl ?_
          refine V_if_lt dL_areTries_327 (fun z => absurd z (fun z => absurd ((clt (by repeat (first | with_reducible rfl | with_reducible exact nlit | with_reducible apply nadd | with_reducible apply nmul | with_reducible apply nsub | with_reducible assumption | omega)) (by repeat (first | with_reducible rfl | with_reducible exact nlit | with_reducible apply nadd | with_reducible apply nmul | with_reducible apply nsub | with_reducible assumption | omega)) (by omega) (by omega)).mp z) (by omega))) (fun _ => ?_)
          refine V_iload dL_areTries_330 rfl ?_
          refine V_iload dL_areTries_332 rfl ?_
          refine V_icmp_gt dL_areTries_334 (fun z => absurd z (fun z => absurd ((clt (by repeat (first | with_reducible rfl | with_reducible exact nlit | with_reducible apply nadd | with_reducible apply nmul | with_reducible apply nsub | with_reducible assumption | omega)) (by repeat (first | with_reducible rfl | with_reducible exact nlit | with_reducible apply nadd | with_reducible apply nmul | with_reducible apply nsub | with_reducible assumption | omega)) (by omega) (by omega)).mp z) (by omega))) (fun _ => ?_)
          refine V_iload dL_areTries_337 rfl ?_
          refine V_iload dL_areTries_339 rfl ?_
          refine V_icmp_gt dL_areTries_341 (fun z => absurd z (fun z => absurd ((clt (by repeat (first | with_reducible rfl | with_reducible exact nlit | with_reducible apply nadd | with_reducible apply nmul | with_reducible apply nsub | with_reducible assumption | omega)) (by repeat (first | with_reducible rfl | with_reducible exact nlit | with_reducible apply nadd | with_reducible apply nmul | with_reducible apply nsub | with_reducible assumption | omega)) (by omega) (by omega)).mp z) (by omega))) (fun _ => ?_)
          refine V_iload dL_areTries_344 rfl ?_
          refine V_aload_n dL_areTries_346 rfl ?_
          refine V_iload dL_areTries_347 rfl ?_
          refine V_iconst (v := 0) dL_areTries_349 (by decide) ?_
          refine V_rq dL_areTries_350 kL_27 ykX6_length rfl (q_len0 ho' hI hD) rfl (Nat.le_of_ble_eq_true rfl) ⟨by decide, by decide, by decide, by decide⟩ (fun D hD => ?_)
          refine V_icmp_gt dL_areTries_353 (fun z => absurd z (fun z => absurd ((clt (by repeat (first | with_reducible rfl | with_reducible exact nlit | with_reducible apply nadd | with_reducible apply nmul | with_reducible apply nsub | with_reducible assumption | omega)) (by repeat (first | with_reducible rfl | with_reducible exact nlit | with_reducible apply nadd | with_reducible apply nmul | with_reducible apply nsub | with_reducible assumption | omega)) (by omega) (by omega)).mp z) (by omega))) (fun _ => ?_)
          refine V_iconst (v := 1) dL_areTries_356 (by decide) ?_
          refine V_goto dL_areTries_357 ?_
          refine V_istore_n dL_areTries_361 (by decide) (by dsimp only [List.set] <;> rfl) rfl ?_
          refine V_iinc dL_areTries_362 rfl (ninc _) (by decide) (by dsimp only [List.set] <;> rfl) ?_
          refine V_goto dL_areTries_365 ?_
          exact ihq (o + 1) _ _ D hD (by omega)
      have kK : ∀ (q k : Nat) (x7 x8 : Option Value) (D : CT), SC C D → k + q = tl n → V G l RL "areTries" cL_areTries 9 (some .boolean) (rmd 5 0 0) E0 (Qm G (Rq G a C 1) sz 0 0) sz 0 0 186 [some (.ref a), some (.int (nI tc)), some (.int (nI op)), some (.int 1), some (.int (nI n)), some (.int (nI (tl n))), some (.int (nI k)), x7, x8] [] (B G a D) := by
        intro q
        induction q with
        | zero =>
          intro k x7 x8 D hD hk
          refine V_iload dL_areTries_186 rfl ?_
          refine V_iload dL_areTries_188 rfl ?_
          refine V_icmp_ge dL_areTries_190 (fun _ => ?_) (fun z => absurd ((cle (by repeat (first | with_reducible rfl | with_reducible exact nlit | with_reducible apply nadd | with_reducible apply nmul | with_reducible apply nsub | with_reducible assumption | omega)) (by repeat (first | with_reducible rfl | with_reducible exact nlit | with_reducible apply nadd | with_reducible apply nmul | with_reducible apply nsub | with_reducible assumption | omega)) (by omega) (by omega)).mpr (by omega)) z)
          refine V_iconst (v := 0) dL_areTries_261 (by decide) ?_
          refine V_istore dL_areTries_262 (by decide) (by dsimp only [List.set] <;> rfl) rfl ?_
          exact kO n 0 x7 x8 D hD (by omega)
        | succ q ihq =>
          intro k x7 x8 D hD hk
          obtain ⟨v1, v2⟩ := t3 k (by omega)
          obtain ⟨v, v3, v4⟩ := cl_ex (n := 5) (by decide) v1
          obtain ⟨X, g, X1, X2, X3, X4, -⟩ := inR_ex v2
          rw [v4] at X2
          refine V_iload dL_areTries_186 rfl ?_
          refine V_iload dL_areTries_188 rfl ?_
          refine V_icmp_ge dL_areTries_190 (fun z => absurd z (fun z => absurd ((cle (by repeat (first | with_reducible rfl | with_reducible exact nlit | with_reducible apply nadd | with_reducible apply nmul | with_reducible apply nsub | with_reducible assumption | omega)) (by repeat (first | with_reducible rfl | with_reducible exact nlit | with_reducible apply nadd | with_reducible apply nmul | with_reducible apply nsub | with_reducible assumption | omega)) (by omega) (by omega)).mp z) (by omega))) (fun _ => ?_)
          refine V_iload_n dL_areTries_193 rfl ?_
          refine V_if_eq dL_areTries_194 (fun z => absurd z (by decide)) (fun _ => ?_)
          refine V_aload_n dL_areTries_197 rfl ?_
          refine V_iload dL_areTries_198 rfl ?_
          refine V_iload dL_areTries_200 rfl ?_
          refine V_iconst (v := 0) dL_areTries_202 (by decide) ?_
          refine V_rq dL_areTries_203 kL_23 ykX6_ofTry rfl (Rq_e v4 (q_oT0 (by omega) (by omega) hI hD)) rfl (Nat.le_of_ble_eq_true rfl) ⟨by decide, by decide, by decide, by decide⟩ (fun D hD => ?_)
          refine V_istore dL_areTries_206 (by decide) (by dsimp only [List.set] <;> rfl) rfl ?_
          refine V_iload dL_areTries_208 rfl ?_
          refine V_if_lt dL_areTries_210 (fun z => absurd z (fun z => absurd ((clt (by repeat (first | with_reducible rfl | with_reducible exact nlit | with_reducible apply nadd | with_reducible apply nmul | with_reducible apply nsub | with_reducible assumption | omega)) (by repeat (first | with_reducible rfl | with_reducible exact nlit | with_reducible apply nadd | with_reducible apply nmul | with_reducible apply nsub | with_reducible assumption | omega)) (by omega) (by omega)).mp z) (by omega))) (fun _ => ?_)
          refine V_iload dL_areTries_213 rfl ?_
          refine V_bipush (v := 6) dL_areTries_215 (by decide) ?_
          refine V_icmp_ge dL_areTries_217 (fun z => absurd z (fun z => absurd ((cle (by repeat (first | with_reducible rfl | with_reducible exact nlit | with_reducible apply nadd | with_reducible apply nmul | with_reducible apply nsub | with_reducible assumption | omega)) (by repeat (first | with_reducible rfl | with_reducible exact nlit | with_reducible apply nadd | with_reducible apply nmul | with_reducible apply nsub | with_reducible assumption | omega)) (by omega) (by omega)).mp z) (by omega))) (fun _ => ?_)
          refine V_aload_n dL_areTries_220 rfl ?_
          refine V_iload dL_areTries_221 rfl ?_
          refine V_iload dL_areTries_223 rfl ?_
          refine V_iconst (v := 1) dL_areTries_225 (by decide) ?_
          refine V_rq dL_areTries_226 kL_23 ykX6_ofTry rfl (Rq_e X1 (q_oT1 (by omega) (by omega) hI hD)) rfl (Nat.le_of_ble_eq_true rfl) ⟨by decide, by decide, by decide, by decide⟩ (fun D hD => ?_)
          refine V_if_lt dL_areTries_229 (fun z => absurd z (fun z => absurd ((clt (by repeat (first | with_reducible rfl | with_reducible exact nlit | with_reducible apply nadd | with_reducible apply nmul | with_reducible apply nsub | with_reducible assumption | omega)) (by repeat (first | with_reducible rfl | with_reducible exact nlit | with_reducible apply nadd | with_reducible apply nmul | with_reducible apply nsub | with_reducible assumption | omega)) (by omega) (by omega)).mp z) (by omega))) (fun _ => ?_)
          refine V_aload_n dL_areTries_232 rfl ?_
          refine V_iload dL_areTries_233 rfl ?_
          refine V_iload dL_areTries_235 rfl ?_
          refine V_iconst (v := 1) dL_areTries_237 (by decide) ?_
          refine V_rq dL_areTries_238 kL_23 ykX6_ofTry rfl (Rq_e X1 (q_oT1 (by omega) (by omega) hI hD)) rfl (Nat.le_of_ble_eq_true rfl) ⟨by decide, by decide, by decide, by decide⟩ (fun D hD => ?_)
          refine V_iload dL_areTries_241 rfl ?_
          refine V_callSr dL_areTries_243 kL_39 ykL_greatest (tL_greatest _) rfl (Nat.le_of_ble_eq_true rfl) ⟨by decide, by decide, by decide, by decide⟩ ?_
          refine V_toe X2 ?_
          refine V_icmp_gt dL_areTries_246 (fun z => absurd z (fun z => absurd ((clt (by repeat (first | with_reducible rfl | with_reducible exact nlit | with_reducible apply nadd | with_reducible apply nmul | with_reducible apply nsub | with_reducible assumption | omega)) (by repeat (first | with_reducible rfl | with_reducible exact nlit | with_reducible apply nadd | with_reducible apply nmul | with_reducible apply nsub | with_reducible assumption | omega)) (by omega) (by omega)).mp z) (by omega))) (fun _ => ?_)
          refine V_iconst (v := 1) dL_areTries_249 (by decide) ?_
          refine V_goto dL_areTries_250 ?_
          refine V_istore_n dL_areTries_254 (by decide) (by dsimp only [List.set] <;> rfl) rfl ?_
          refine V_iinc dL_areTries_255 rfl (ninc _) (by decide) (by dsimp only [List.set] <;> rfl) ?_
          refine V_goto dL_areTries_258 ?_
          exact ihq (k + 1) _ x8 D hD (by omega)
      refine V_iload dL_areTries_105 rfl ?_
      refine V_iload_n dL_areTries_107 rfl ?_
      refine V_icmp_ge dL_areTries_108 (fun z => absurd z (fun z => absurd ((cle (by repeat (first | with_reducible rfl | with_reducible exact nlit | with_reducible apply nadd | with_reducible apply nmul | with_reducible apply nsub | with_reducible assumption | omega)) (by repeat (first | with_reducible rfl | with_reducible exact nlit | with_reducible apply nadd | with_reducible apply nmul | with_reducible apply nsub | with_reducible assumption | omega)) (by omega) (by omega)).mp z) (by omega))) (fun _ => ?_)
      refine V_iload_n dL_areTries_111 rfl ?_
      refine V_if_eq dL_areTries_112 (fun z => absurd z (by decide)) (fun _ => ?_)
      refine V_aload_n dL_areTries_115 rfl ?_
      refine V_iload dL_areTries_116 rfl ?_
      refine V_iconst (v := 0) dL_areTries_118 (by decide) ?_
      refine V_rq dL_areTries_119 kL_27 ykX6_length rfl (q_len0 hn' hI hD) rfl (Nat.le_of_ble_eq_true rfl) ⟨by decide, by decide, by decide, by decide⟩ (fun D hD => ?_)
      refine V_istore dL_areTries_122 (by decide) (by dsimp only [List.set] <;> rfl) rfl ?_
      refine V_iload dL_areTries_124 rfl ?_
      refine V_if_le dL_areTries_126 (fun z => absurd z (fun z => absurd ((cle (by repeat (first | with_reducible rfl | with_reducible exact nlit | with_reducible apply nadd | with_reducible apply nmul | with_reducible apply nsub | with_reducible assumption | omega)) (by repeat (first | with_reducible rfl | with_reducible exact nlit | with_reducible apply nadd | with_reducible apply nmul | with_reducible apply nsub | with_reducible assumption | omega)) (by omega) (by omega)).mp z) (by omega))) (fun _ => ?_)
      refine V_iload dL_areTries_129 rfl ?_
      refine V_bipush (v := 13) dL_areTries_131 (by decide) ?_
      refine V_icmp_ge dL_areTries_133 (fun z => absurd z (fun z => absurd ((cle (by repeat (first | with_reducible rfl | with_reducible exact nlit | with_reducible apply nadd | with_reducible apply nmul | with_reducible apply nsub | with_reducible assumption | omega)) (by repeat (first | with_reducible rfl | with_reducible exact nlit | with_reducible apply nadd | with_reducible apply nmul | with_reducible apply nsub | with_reducible assumption | omega)) (by omega) (by omega)).mp z) (by omega))) (fun _ => ?_)
      refine V_aload_n dL_areTries_136 rfl ?_
      refine V_iload dL_areTries_137 rfl ?_
      refine V_iload dL_areTries_139 rfl ?_
      refine V_iconst (v := 0) dL_areTries_141 (by decide) ?_
      refine V_rq dL_areTries_142 kL_23 ykX6_ofTry rfl (q_oT_s (by omega) (nIx (Nat.le_refl _) (by omega)) hI hD) rfl (Nat.le_of_ble_eq_true rfl) ⟨by decide, by decide, by decide, by decide⟩ (fun D hD => ?_)
      refine V_iconst (v := (-1)) dL_areTries_145 (by decide) ?_
      refine V_icmp_ne dL_areTries_146 (fun z => absurd z (fun z => z rfl)) (fun _ => ?_)
      refine V_aload_n dL_areTries_149 rfl ?_
      refine V_iload dL_areTries_150 rfl ?_
      refine V_iload dL_areTries_152 rfl ?_
      refine V_iconst (v := 0) dL_areTries_154 (by decide) ?_
      refine V_rq dL_areTries_155 kL_36 ykX6_alike rfl (Rq_e (by rw [al_self]) (q_alike 0 (Or.inl rfl) hn' hn' hI hD)) rfl (Nat.le_of_ble_eq_true rfl) ⟨by decide, by decide, by decide, by decide⟩ (fun D hD => ?_)
      refine V_iload dL_areTries_158 rfl ?_
      refine V_icmp_ne dL_areTries_160 (fun z => absurd z (fun z => z rfl)) (fun _ => ?_)
      refine V_aload_n dL_areTries_163 rfl ?_
      refine V_iload dL_areTries_164 rfl ?_
      refine V_iload dL_areTries_166 rfl ?_
      refine V_iconst (v := 1) dL_areTries_168 (by decide) ?_
      refine V_rq dL_areTries_169 kL_36 ykX6_alike rfl (Rq_e (by rw [al_self]) (q_alike 1 (Or.inr rfl) hn' hn' hI hD)) rfl (Nat.le_of_ble_eq_true rfl) ⟨by decide, by decide, by decide, by decide⟩ (fun D hD => ?_)
      refine V_iload dL_areTries_172 rfl ?_
      refine V_icmp_ne dL_areTries_174 (fun z => absurd z (fun z => z rfl)) (fun _ => ?_)
      refine V_iconst (v := 1) dL_areTries_177 (by decide) ?_
      refine V_goto dL_areTries_178 ?_
      refine V_istore_n dL_areTries_182 (by decide) (by dsimp only [List.set] <;> rfl) rfl ?_
      refine V_iconst (v := 0) dL_areTries_183 (by decide) ?_
      refine V_istore dL_areTries_184 (by decide) (by dsimp only [List.set] <;> rfl) rfl ?_
      exact kK (tl n) 0 x7 x8 D hD (by omega)
  have k68 : ∀ (D : CT), SC C D → V G l RL "areTries" cL_areTries 9 (some .boolean) (rmd 5 0 0) E0 (Qm G (Rq G a C 1) sz 0 0) sz 0 0 68 [some (.ref a), some (.int (nI tc)), some (.int (nI op)), none, none, none, none, none, none] [] (B G a D) := by
    intro D hD
    rcases c4 with ho | ⟨ho, ht⟩
    · refine V_iload_n dL_areTries_68 rfl ?_
      refine V_if_eq dL_areTries_69 (fun _ => ?_) (fun z => absurd (by rw [ho]; rfl) z)
      refine V_iconst (v := 1) dL_areTries_96 (by decide) ?_
      refine V_goto dL_areTries_97 ?_
      refine V_istore_n dL_areTries_101 (by decide) (by dsimp only [List.set] <;> rfl) rfl ?_
      refine V_iconst (v := 0) dL_areTries_102 (by decide) ?_
      refine V_istore dL_areTries_103 (by decide) (by dsimp only [List.set] <;> rfl) rfl ?_
      exact kN tc 0 none none none none D hD (by omega)
    · have t2 := (iv_tr hI (i := tc) (by omega)).2.1
      refine V_iload_n dL_areTries_68 rfl ?_
      refine V_if_eq dL_areTries_69 (fun z => absurd z (by rw [ho]; decide)) (fun _ => ?_)
      refine V_aload_n dL_areTries_72 rfl ?_
      refine V_iconst (v := 3) dL_areTries_73 (by decide) ?_
      refine V_rq dL_areTries_74 kL_20 ykX6_total rfl (q_tot3_1 ho hI hD) rfl (Nat.le_of_ble_eq_true rfl) ⟨by decide, by decide, by decide, by decide⟩ (fun D hD => ?_)
      refine V_if_lt dL_areTries_77 (fun z => absurd z (fun z => absurd ((clt (by repeat (first | with_reducible rfl | with_reducible exact nlit | with_reducible apply nadd | with_reducible apply nmul | with_reducible apply nsub | with_reducible assumption | omega)) (by repeat (first | with_reducible rfl | with_reducible exact nlit | with_reducible apply nadd | with_reducible apply nmul | with_reducible apply nsub | with_reducible assumption | omega)) (by omega) (by omega)).mp z) (by omega))) (fun _ => ?_)
      refine V_aload_n dL_areTries_80 rfl ?_
      refine V_iconst (v := 3) dL_areTries_81 (by decide) ?_
      refine V_rq dL_areTries_82 kL_20 ykX6_total rfl (q_tot3_1 ho hI hD) rfl (Nat.le_of_ble_eq_true rfl) ⟨by decide, by decide, by decide, by decide⟩ (fun D hD => ?_)
      refine V_bipush (v := 12) dL_areTries_85 (by decide) ?_
      refine V_icmp_gt dL_areTries_87 (fun z => absurd z (fun z => absurd ((clt (by repeat (first | with_reducible rfl | with_reducible exact nlit | with_reducible apply nadd | with_reducible apply nmul | with_reducible apply nsub | with_reducible assumption | omega)) (by repeat (first | with_reducible rfl | with_reducible exact nlit | with_reducible apply nadd | with_reducible apply nmul | with_reducible apply nsub | with_reducible assumption | omega)) (by omega) (by omega)).mp z) (by omega))) (fun _ => ?_)
      refine V_iload_n dL_areTries_90 rfl ?_
      refine V_bipush (v := 6) dL_areTries_91 (by decide) ?_
      refine V_icmp_ge dL_areTries_93 (fun z => absurd z (fun z => absurd ((cle (by repeat (first | with_reducible rfl | with_reducible exact nlit | with_reducible apply nadd | with_reducible apply nmul | with_reducible apply nsub | with_reducible assumption | omega)) (by repeat (first | with_reducible rfl | with_reducible exact nlit | with_reducible apply nadd | with_reducible apply nmul | with_reducible apply nsub | with_reducible assumption | omega)) (by omega) (by omega)).mp z) (by omega))) (fun _ => ?_)
      refine V_iconst (v := 1) dL_areTries_96 (by decide) ?_
      refine V_goto dL_areTries_97 ?_
      refine V_istore_n dL_areTries_101 (by decide) (by dsimp only [List.set] <;> rfl) rfl ?_
      refine V_iconst (v := 0) dL_areTries_102 (by decide) ?_
      refine V_istore dL_areTries_103 (by decide) (by dsimp only [List.set] <;> rfl) rfl ?_
      exact kN tc 0 none none none none D hD (by omega)
  have k22 : ∀ (D : CT), SC C D → V G l RL "areTries" cL_areTries 9 (some .boolean) (rmd 5 0 0) E0 (Qm G (Rq G a C 1) sz 0 0) sz 0 0 22 [some (.ref a), some (.int (nI tc)), some (.int (nI op)), none, none, none, none, none, none] [] (B G a D) := by
    intro D hD
    refine V_iload_n dL_areTries_22 rfl ?_
    refine V_if_lt dL_areTries_23 (fun z => absurd z (fun z => absurd ((clt (by repeat (first | with_reducible rfl | with_reducible exact nlit | with_reducible apply nadd | with_reducible apply nmul | with_reducible apply nsub | with_reducible assumption | omega)) (by repeat (first | with_reducible rfl | with_reducible exact nlit | with_reducible apply nadd | with_reducible apply nmul | with_reducible apply nsub | with_reducible assumption | omega)) (by omega) (by omega)).mp z) (by omega))) (fun _ => ?_)
    refine V_iload_n dL_areTries_26 rfl ?_
    refine V_bipush (v := 6) dL_areTries_27 (by decide) ?_
    refine V_icmp_gt dL_areTries_29 (fun z => absurd z (fun z => absurd ((clt (by repeat (first | with_reducible rfl | with_reducible exact nlit | with_reducible apply nadd | with_reducible apply nmul | with_reducible apply nsub | with_reducible assumption | omega)) (by repeat (first | with_reducible rfl | with_reducible exact nlit | with_reducible apply nadd | with_reducible apply nmul | with_reducible apply nsub | with_reducible assumption | omega)) (by omega) (by omega)).mp z) (by omega))) (fun _ => ?_)
    refine V_aload_n dL_areTries_32 rfl ?_
    refine V_bipush (v := 9) dL_areTries_33 (by decide) ?_
    refine V_rq dL_areTries_35 kL_20 ykX6_total rfl (q_tot9 hI hD) rfl (Nat.le_of_ble_eq_true rfl) ⟨by decide, by decide, by decide, by decide⟩ (fun D hD => ?_)
    refine V_iload_n dL_areTries_38 rfl ?_
    refine V_icmp_gt dL_areTries_39 (fun z => absurd z (fun z => absurd ((clt (by repeat (first | with_reducible rfl | with_reducible exact nlit | with_reducible apply nadd | with_reducible apply nmul | with_reducible apply nsub | with_reducible assumption | omega)) (by repeat (first | with_reducible rfl | with_reducible exact nlit | with_reducible apply nadd | with_reducible apply nmul | with_reducible apply nsub | with_reducible assumption | omega)) (by omega) (by omega)).mp z) (by omega))) (fun _ => ?_)
    by_cases h0 : tc = 0
    · refine V_iload_n dL_areTries_42 rfl ?_
      refine V_if_ne dL_areTries_43 (fun z => absurd z (fun z => z (by rw [h0]; rfl))) (fun _ => ?_)
      refine V_iconst (v := 1) dL_areTries_46 (by decide) ?_
      refine V_goto dL_areTries_47 ?_
      refine V_aload_n dL_areTries_51 rfl ?_
      refine V_bipush (v := 9) dL_areTries_52 (by decide) ?_
      refine V_rq dL_areTries_54 kL_20 ykX6_total rfl (q_tot9 hI hD) rfl (Nat.le_of_ble_eq_true rfl) ⟨by decide, by decide, by decide, by decide⟩ (fun D hD => ?_)
      refine V_if_ne dL_areTries_57 (fun z => absurd z (fun z => z (by rw [h0]; rfl))) (fun _ => ?_)
      refine V_iconst (v := 1) dL_areTries_60 (by decide) ?_
      refine V_goto dL_areTries_61 ?_
      refine V_icmp_ne dL_areTries_65 (fun z => absurd z (fun z => z rfl)) (fun _ => ?_)
      exact k68 D hD
    · have hp : 1 ≤ rN (lkC C tl) tc := by
        obtain ⟨t, rfl⟩ : ∃ t, tc = t + 1 := ⟨tc - 1, by omega⟩
        exact rN_pos t
      refine V_iload_n dL_areTries_42 rfl ?_
      refine V_if_ne dL_areTries_43 (fun _ => ?_) (fun z => absurd z ((fun z => absurd ((ceq (by repeat (first | with_reducible rfl | with_reducible exact nlit | with_reducible apply nadd | with_reducible apply nmul | with_reducible apply nsub | with_reducible assumption | omega)) (by repeat (first | with_reducible rfl | with_reducible exact nlit | with_reducible apply nadd | with_reducible apply nmul | with_reducible apply nsub | with_reducible assumption | omega)) (by omega) (by omega)).mp z) (by omega))))
      refine V_iconst (v := 0) dL_areTries_50 (by decide) ?_
      refine V_aload_n dL_areTries_51 rfl ?_
      refine V_bipush (v := 9) dL_areTries_52 (by decide) ?_
      refine V_rq dL_areTries_54 kL_20 ykX6_total rfl (q_tot9 hI hD) rfl (Nat.le_of_ble_eq_true rfl) ⟨by decide, by decide, by decide, by decide⟩ (fun D hD => ?_)
      refine V_if_ne dL_areTries_57 (fun _ => ?_) (fun z => absurd z ((fun z => absurd ((ceq (by repeat (first | with_reducible rfl | with_reducible exact nlit | with_reducible apply nadd | with_reducible apply nmul | with_reducible apply nsub | with_reducible assumption | omega)) (by repeat (first | with_reducible rfl | with_reducible exact nlit | with_reducible apply nadd | with_reducible apply nmul | with_reducible apply nsub | with_reducible assumption | omega)) (by omega) (by omega)).mp z) (by omega))))
      refine V_iconst (v := 0) dL_areTries_64 (by decide) ?_
      refine V_icmp_ne dL_areTries_65 (fun z => absurd z (fun z => z rfl)) (fun _ => ?_)
      exact k68 D hD
  refine Ct.of (own := RL) (mn := "areTries") (L0 := [some (.ref a), none, none, none, none, none, none, none, none]) (by decide +kernel) rfl rfl rfl (Nat.le_of_ble_eq_true rfl) rfl ?_
  refine V_aload_n dL_areTries_0 rfl ?_
  refine V_iconst (v := 2) dL_areTries_1 (by decide) ?_
  refine V_rq dL_areTries_2 kL_20 ykX6_total rfl (q_tot2 hI hD) rfl (Nat.le_of_ble_eq_true rfl) ⟨by decide, by decide, by decide, by decide⟩ (fun D hD => ?_)
  refine V_istore_n dL_areTries_5 (by decide) (by dsimp only [List.set] <;> rfl) rfl ?_
  rcases c4 with ho | ⟨ho, ht⟩
  · refine V_aload_n dL_areTries_6 rfl ?_
    refine V_iconst (v := 3) dL_areTries_7 (by decide) ?_
    refine V_rq dL_areTries_8 kL_20 ykX6_total rfl (q_tot3_0 ho hI hD) rfl (Nat.le_of_ble_eq_true rfl) ⟨by decide, by decide, by decide, by decide⟩ (fun D hD => ?_)
    refine V_bipush (v := (-5)) dL_areTries_11 (by decide) ?_
    refine V_icmp_eq dL_areTries_13 (fun _ => ?_) (fun z => absurd rfl z)
    refine V_iconst (v := 0) dL_areTries_20 (by decide) ?_
    refine V_toe (show (0 : Int32) = nI op by rw [ho]; rfl) ?_
    refine V_istore_n dL_areTries_21 (by decide) (by dsimp only [List.set] <;> rfl) rfl ?_
    exact k22 D hD
  · have t2 := (iv_tr hI (i := tc) (by omega)).2.1
    refine V_aload_n dL_areTries_6 rfl ?_
    refine V_iconst (v := 3) dL_areTries_7 (by decide) ?_
    refine V_rq dL_areTries_8 kL_20 ykX6_total rfl (q_tot3_1 ho hI hD) rfl (Nat.le_of_ble_eq_true rfl) ⟨by decide, by decide, by decide, by decide⟩ (fun D hD => ?_)
    refine V_bipush (v := (-5)) dL_areTries_11 (by decide) ?_
    refine V_icmp_eq dL_areTries_13 (fun z => absurd z (n5 (by omega))) (fun _ => ?_)
    refine V_iconst (v := 1) dL_areTries_16 (by decide) ?_
    refine V_goto dL_areTries_17 ?_
    refine V_toe (show (1 : Int32) = nI op by rw [ho]; rfl) ?_
    refine V_istore_n dL_areTries_21 (by decide) (by dsimp only [List.set] <;> rfl) rfl ?_
    exact k22 D hD
end LAW
