/-! The law: areLoops. -/
section LAW
variable {G : GT} {l : Launch} {sz a st hd tc op lc : Nat} {tl ll lt : Nat → Nat} {C D : CT} {h : Hp}
theorem fit_ex {n i : Nat} (hn : n < lc) (hi : i < tc) (hI : Inv (bk C 1) hd tc op lc tl ll lt) (hf : fitC C n (ll n) i (tl i)) : 1 ≤ tl i / ll n ∧ tl i / ll n * ll n = tl i ∧ ∀ k, k < ll n → inR (C 11 (n * 12 + k)) (C 12 (n * 12 + k) + nI (tl i / ll n - 1) * C 13 (n * 12 + k)) := by
  obtain ⟨f1, f2⟩ := hf
  obtain ⟨-, b2, b3, -⟩ := iv_lp hI hn
  obtain ⟨-, t2, t3⟩ := iv_tr hI (i := i) (by omega)
  have t4 := iv_t1 hI hi
  have e : tl i / ll n * ll n = tl i := Nat.div_mul_cancel (Nat.dvd_of_mod_eq_zero f1)
  have hw : 1 ≤ tl i / ll n := by
    rcases Nat.eq_zero_or_pos (tl i / ll n) with z | z
    · rw [z] at e; omega
    · exact z
  refine ⟨hw, e, fun k hk => ?_⟩
  generalize hW : tl i / ll n = W at *
  obtain ⟨w, rfl⟩ : ∃ w, W = w + 1 := ⟨W - 1, by omega⟩
  have hs : (w + 1) * ll n = w * ll n + ll n := Nat.succ_mul w (ll n)
  have hlt : w * ll n + k < tl i := by omega
  obtain ⟨g1, g2⟩ := f2 (w * ll n + k) hlt
  have m1 : (w * ll n + k) % ll n = k := by rw [Nat.mul_comm, Nat.mul_add_mod, Nat.mod_eq_of_lt hk]
  have m2 : (w * ll n + k) / ll n = w := by rw [Nat.mul_comm, Nat.mul_add_div (by omega), Nat.div_eq_of_lt hk]; rfl
  rw [m1] at g1 g2
  rw [m2] at g2
  have := (t3 (w * ll n + k) hlt).2
  rw [g1, g2] at this
  exact this
set_option maxHeartbeats 8000000 in
theorem tL_areLoops (hI : Inv (bk C 1) hd tc op lc tl ll lt) (hD : SC C D) : Ct G l yL_areLoops cL_areLoops 13 (some .boolean) 6 0 0 sz [.ref a] (B G a D) (Rq G a C 1) := by
  obtain ⟨c1, c2, c3, c4⟩ := iv_tc hI
  obtain ⟨c5, c6⟩ := iv_lc hI
  have kN : ∀ (m n : Nat) (x4 x5 x6 x7 x8 x9 x10 x11 x12 : Option Value) (D : CT), SC C D → n + m = lc → V G l RL "areLoops" cL_areLoops 13 (some .boolean) (rmd 6 0 0) E0 (Qm G (Rq G a C 1) sz 0 0) sz 0 0 24 [some (.ref a), some (.int (nI lc)), some (.int 1), some (.int (nI n)), x4, x5, x6, x7, x8, x9, x10, x11, x12] [] (B G a D) := by
    intro m
    induction m with
    | zero =>
      intro n x4 x5 x6 x7 x8 x9 x10 x11 x12 D hD hn0
      refine V_iload_n dL_areLoops_24 rfl ?_
      refine V_iload_n dL_areLoops_25 rfl ?_
      refine V_icmp_ge dL_areLoops_26 (fun _ => ?_) (fun z => absurd ((cle (by repeat (first | with_reducible rfl | with_reducible exact nlit | with_reducible apply nadd | with_reducible apply nmul | with_reducible apply nsub | with_reducible assumption | omega)) (by repeat (first | with_reducible rfl | with_reducible exact nlit | with_reducible apply nadd | with_reducible apply nmul | with_reducible apply nsub | with_reducible assumption | omega)) (by omega) (by omega)).mpr (by omega)) z)
      refine V_iload_n dL_areLoops_517 rfl ?_
      refine V_zret dL_areLoops_518 rfl (by first | rfl | exact bI_nar) rfl rfl ?_
      exact ⟨D, rfl, rfl, hD⟩
    | succ m ih =>
      intro n x4 x5 x6 x7 x8 x9 x10 x11 x12 D hD hn0
      have hn : n < lc := by omega
      obtain ⟨b1, b2, b3, b4, b5, b6, b7⟩ := iv_lp hI hn
      obtain ⟨M, hM⟩ : ∃ M, M = mtF (lvC C n) (lnC C n) (lsC C n) (ll n) := ⟨_, rfl⟩
      have hM2 := mtF_ex (bv := lvC C n) (bn := lnC C n) (bs := lsC C n) (ll n) (fun k hk => (b7 k hk).2)
      rw [← hM] at hM2
      have hST : ll n * lt n ≤ 12 * 99 := Nat.mul_le_mul b3 b6
      obtain ⟨AL, hAL⟩ : ∃ AL : Nat → Prop, ∀ k, AL k ↔ ∀ j, j < k → inR (C 11 (n * 12 + j)) (C 12 (n * 12 + j) + nI (lt n - 1) * C 13 (n * 12 + j)) := ⟨_, fun k => Iff.rfl⟩
      obtain ⟨P, hP⟩ : ∃ P, P = pB C hd n (ll n) (lt n) := ⟨_, rfl⟩
      obtain ⟨d, p, p1, p2, p3, p4, p5⟩ := plBody_f (bv := shv C 10 12 n) (bn := shn C 10 12 n) (bs := sht C 10 12 n) (size := ll n) (lt n) 0 (C 3, hd, 0, 0) 0 0 rfl rfl (Nat.le_refl _)
      have hP' : P = plBody (shv C 10 12 n) (shn C 10 12 n) (sht C 10 12 n) (ll n) (lt n) 0 (C 3, hd, 0, 0) := hP
      rw [← hP'] at p1 p2 p5
      rw [Nat.zero_add, Nat.mul_comm] at p4 p5
      have v0 : pV P 0 = nI d := p1
      have v4 : pV P 4 = nI p := p2
      have v1 : pV P 1 = P.2 := rfl
      rw [hP] at v0 v1 v4
      have kF : ∀ (A : Int32) (r : Int32) (q i : Nat) (x11 x12 : Option Value) (D : CT), SC C D → i + q = tc → V G l RL "areLoops" cL_areLoops 13 (some .boolean) (rmd 6 0 0) E0 (Qm G (Rq G a C 1) sz 0 0) sz 0 0 435 [some (.ref a), some (.int (nI lc)), some (.int 1), some (.int (nI n)), some (.int (nI (ll n))), some (.int (nI (lt n))), some (.int M), some (.int A), some (.int (nI d)), some (.int r), some (.int (nI i)), x11, x12] [] (B G a D) := by
        intro A r q
        induction q with
        | zero =>
          intro i x11 x12 D hD hi0
          refine V_iload dL_areLoops_435 rfl ?_
          refine V_aload_n dL_areLoops_437 rfl ?_
          refine V_iconst (v := 2) dL_areLoops_438 (by decide) ?_
          refine V_rq dL_areLoops_439 kL_20 ykX6_total rfl (q_tot2 hI hD) rfl (Nat.le_of_ble_eq_true rfl) ⟨by decide, by decide, by decide, by decide⟩ (fun D hD => ?_)
          refine V_icmp_ge dL_areLoops_442 (fun _ => ?_) (fun z => absurd ((cle (by repeat (first | with_reducible rfl | with_reducible exact nlit | with_reducible apply nadd | with_reducible apply nmul | with_reducible apply nsub | with_reducible assumption | omega)) (by repeat (first | with_reducible rfl | with_reducible exact nlit | with_reducible apply nadd | with_reducible apply nmul | with_reducible apply nsub | with_reducible assumption | omega)) (by omega) (by omega)).mpr (by omega)) z)
          refine V_iinc dL_areLoops_511 rfl (ninc _) (by decide) (by dsimp only [List.set] <;> rfl) ?_
          refine V_goto dL_areLoops_514 ?_
          exact ih (n + 1) _ _ _ _ _ _ _ x11 x12 D hD (by omega)
        | succ q ihq =>
          intro i x11 x12 D hD hi0
          have hi : i < tc := by omega
          refine V_iload dL_areLoops_435 rfl ?_
          refine V_aload_n dL_areLoops_437 rfl ?_
          refine V_iconst (v := 2) dL_areLoops_438 (by decide) ?_
          refine V_rq dL_areLoops_439 kL_20 ykX6_total rfl (q_tot2 hI hD) rfl (Nat.le_of_ble_eq_true rfl) ⟨by decide, by decide, by decide, by decide⟩ (fun D hD => ?_)
          refine V_icmp_ge dL_areLoops_442 (fun z => absurd z (fun z => absurd ((cle (by repeat (first | with_reducible rfl | with_reducible exact nlit | with_reducible apply nadd | with_reducible apply nmul | with_reducible apply nsub | with_reducible assumption | omega)) (by repeat (first | with_reducible rfl | with_reducible exact nlit | with_reducible apply nadd | with_reducible apply nmul | with_reducible apply nsub | with_reducible assumption | omega)) (by omega) (by omega)).mp z) (by omega))) (fun _ => ?_)
          refine V_iload_n dL_areLoops_445 rfl ?_
          refine V_if_eq dL_areLoops_446 (fun z => absurd z (by decide)) (fun _ => ?_)
          by_cases hf : fitC C n (ll n) i (tl i)
          · obtain ⟨w1, w2, w3⟩ := fit_ex hn hi hI hf
            have w4 := (iv_tr hI (i := i) (by omega)).2.1
            have w5 : tl i / ll n ≤ tl i := Nat.div_le_self _ _
            generalize hW : tl i / ll n = W at w1 w2 w3 w5
            refine V_aload_n dL_areLoops_449 rfl ?_
            refine V_iload_n dL_areLoops_450 rfl ?_
            refine V_iload dL_areLoops_451 rfl ?_
            refine V_rq dL_areLoops_453 kL_51 ykX6_fits rfl (Rq_e (by rw [if_pos hf, hW]) (q_fits hn hi hI hD)) rfl (Nat.le_of_ble_eq_true rfl) ⟨by decide, by decide, by decide, by decide⟩ (fun D hD => ?_)
            refine V_istore dL_areLoops_456 (by decide) (by dsimp only [List.set] <;> rfl) rfl ?_
            refine V_iload dL_areLoops_458 rfl ?_
            refine V_bipush (v := (-5)) dL_areLoops_460 (by decide) ?_
            refine V_icmp_eq dL_areLoops_462 (fun z => absurd z (n5 (by omega))) (fun _ => ?_)
            refine V_iload dL_areLoops_465 rfl ?_
            refine V_if_le dL_areLoops_467 (fun z => absurd z (fun z => absurd ((cle (by repeat (first | with_reducible rfl | with_reducible exact nlit | with_reducible apply nadd | with_reducible apply nmul | with_reducible apply nsub | with_reducible assumption | omega)) (by repeat (first | with_reducible rfl | with_reducible exact nlit | with_reducible apply nadd | with_reducible apply nmul | with_reducible apply nsub | with_reducible assumption | omega)) (by omega) (by omega)).mp z) (by omega))) (fun _ => ?_)
            refine V_iload dL_areLoops_470 rfl ?_
            refine V_iload dL_areLoops_472 rfl ?_
            refine V_imul dL_areLoops_474 ?_
            refine V_aload_n dL_areLoops_475 rfl ?_
            refine V_iload dL_areLoops_476 rfl ?_
            refine V_iconst (v := 0) dL_areLoops_478 (by decide) ?_
            refine V_rq dL_areLoops_479 kL_27 ykX6_length rfl (q_len0 hi hI hD) rfl (Nat.le_of_ble_eq_true rfl) ⟨by decide, by decide, by decide, by decide⟩ (fun D hD => ?_)
            refine V_icmp_ne dL_areLoops_482 (fun z => absurd z (fun z => z ((ceq (by repeat (first | with_reducible rfl | with_reducible exact nlit | with_reducible apply nadd | with_reducible apply nmul | with_reducible apply nsub | with_reducible assumption | omega)) (by repeat (first | with_reducible rfl | with_reducible exact nlit | with_reducible apply nadd | with_reducible apply nmul | with_reducible apply nsub | with_reducible assumption | omega)) (by omega) (by omega)).mpr (by omega)))) (fun _ => ?_)
            rcases hM2 with ⟨m1, m2⟩ | ⟨q', m1, m2, m3⟩
            · refine V_iload dL_areLoops_485 rfl ?_
              refine V_bipush (v := (-5)) dL_areLoops_487 (by decide) ?_
              refine V_icmp_eq dL_areLoops_489 (fun _ => ?_) (fun z => absurd m1 z)
              refine V_iconst (v := 1) dL_areLoops_499 (by decide) ?_
              refine V_goto dL_areLoops_500 ?_
              refine V_istore_n dL_areLoops_504 (by decide) (by dsimp only [List.set] <;> rfl) rfl ?_
              refine V_iinc dL_areLoops_505 rfl (ninc _) (by decide) (by dsimp only [List.set] <;> rfl) ?_
              refine V_goto dL_areLoops_508 ?_
              exact ihq (i + 1) _ x12 D hD (by omega)
            · have hq : W - 1 ≤ q' := (m3 (W - 1) (by omega)).mpr (fun k hk => w3 k hk)
              have m5 : ¬ M = -5 := by rw [m2]; exact n5 (by omega)
              refine V_iload dL_areLoops_485 rfl ?_
              refine V_bipush (v := (-5)) dL_areLoops_487 (by decide) ?_
              refine V_icmp_eq dL_areLoops_489 (fun z => absurd z m5) (fun _ => ?_)
              refine V_iload dL_areLoops_492 rfl ?_
              refine V_iload dL_areLoops_494 rfl ?_
              refine V_toe m2 ?_
              refine V_icmp_gt dL_areLoops_496 (fun z => absurd z (fun z => absurd ((clt (by repeat (first | with_reducible rfl | with_reducible exact nlit | with_reducible apply nadd | with_reducible apply nmul | with_reducible apply nsub | with_reducible assumption | omega)) (by repeat (first | with_reducible rfl | with_reducible exact nlit | with_reducible apply nadd | with_reducible apply nmul | with_reducible apply nsub | with_reducible assumption | omega)) (by omega) (by omega)).mp z) (by omega))) (fun _ => ?_)
              refine V_iconst (v := 1) dL_areLoops_499 (by decide) ?_
              refine V_goto dL_areLoops_500 ?_
              refine V_istore_n dL_areLoops_504 (by decide) (by dsimp only [List.set] <;> rfl) rfl ?_
              refine V_iinc dL_areLoops_505 rfl (ninc _) (by decide) (by dsimp only [List.set] <;> rfl) ?_
              refine V_goto dL_areLoops_508 ?_
              exact ihq (i + 1) _ x12 D hD (by omega)
          · refine V_aload_n dL_areLoops_449 rfl ?_
            refine V_iload_n dL_areLoops_450 rfl ?_
            refine V_iload dL_areLoops_451 rfl ?_
            refine V_rq dL_areLoops_453 kL_51 ykX6_fits rfl (Rq_e (by rw [if_neg hf]) (q_fits hn hi hI hD)) rfl (Nat.le_of_ble_eq_true rfl) ⟨by decide, by decide, by decide, by decide⟩ (fun D hD => ?_)
            refine V_istore dL_areLoops_456 (by decide) (by dsimp only [List.set] <;> rfl) rfl ?_
            refine V_iload dL_areLoops_458 rfl ?_
            refine V_bipush (v := (-5)) dL_areLoops_460 (by decide) ?_
            refine V_icmp_eq dL_areLoops_462 (fun _ => ?_) (fun z => absurd rfl z)
            refine V_iconst (v := 1) dL_areLoops_499 (by decide) ?_
            refine V_goto dL_areLoops_500 ?_
            refine V_istore_n dL_areLoops_504 (by decide) (by dsimp only [List.set] <;> rfl) rfl ?_
            refine V_iinc dL_areLoops_505 rfl (ninc _) (by decide) (by dsimp only [List.set] <;> rfl) ?_
            refine V_goto dL_areLoops_508 ?_
            exact ihq (i + 1) _ x12 D hD (by omega)
      have kP : ∀ (A : Int32) (x8 x9 x10 x11 x12 : Option Value) (D : CT), SC C D → (AL (ll n) → A = 1) → (¬ AL (ll n) → A = 0) → V G l RL "areLoops" cL_areLoops 13 (some .boolean) (rmd 6 0 0) E0 (Qm G (Rq G a C 1) sz 0 0) sz 0 0 301 [some (.ref a), some (.int (nI lc)), some (.int 1), some (.int (nI n)), some (.int (nI (ll n))), some (.int (nI (lt n))), some (.int M), some (.int A), x8, x9, x10, x11, x12] [.int 1] (B G a D) := by
        intro A x8 x9 x10 x11 x12 D hD hA1 hA0
        rcases p5 with ⟨r1, r2⟩ | ⟨r1, r2, j, u, r3, r4, r5, r6⟩ | r1
        · rw [← hP, r1] at v1
          rw [hP] at v1
          refine V_istore_n dL_areLoops_301 (by decide) (by dsimp only [List.set] <;> rfl) rfl ?_
          refine V_iload_n dL_areLoops_302 rfl ?_
          refine V_if_eq dL_areLoops_303 (fun z => absurd z (by decide)) (fun _ => ?_)
          refine V_aload_n dL_areLoops_306 rfl ?_
          refine V_iload_n dL_areLoops_307 rfl ?_
          refine V_iload dL_areLoops_308 rfl ?_
          refine V_iconst (v := 0) dL_areLoops_310 (by decide) ?_
          refine V_rq dL_areLoops_311 kL_48 ykX6_ifPlayed rfl (Rq_e v0 (q_ifPlayed 0 hn ⟨b5, b6⟩ (by decide) hI hD)) rfl (Nat.le_of_ble_eq_true rfl) ⟨by decide, by decide, by decide, by decide⟩ (fun D hD => ?_)
          refine V_goto dL_areLoops_314 ?_
          refine V_istore dL_areLoops_318 (by decide) (by dsimp only [List.set] <;> rfl) rfl ?_
          refine V_iload_n dL_areLoops_320 rfl ?_
          refine V_if_eq dL_areLoops_321 (fun z => absurd z (by decide)) (fun _ => ?_)
          refine V_aload_n dL_areLoops_324 rfl ?_
          refine V_iload_n dL_areLoops_325 rfl ?_
          refine V_iload dL_areLoops_326 rfl ?_
          refine V_iconst (v := 1) dL_areLoops_328 (by decide) ?_
          refine V_rq dL_areLoops_329 kL_48 ykX6_ifPlayed rfl (Rq_e v1 (q_ifPlayed 1 hn ⟨b5, b6⟩ (by decide) hI hD)) rfl (Nat.le_of_ble_eq_true rfl) ⟨by decide, by decide, by decide, by decide⟩ (fun D hD => ?_)
          refine V_goto dL_areLoops_332 ?_
          refine V_istore dL_areLoops_336 (by decide) (by dsimp only [List.set] <;> rfl) rfl ?_
          refine V_iload_n dL_areLoops_338 rfl ?_
          refine V_if_eq dL_areLoops_339 (fun z => absurd z (by decide)) (fun _ => ?_)
          refine V_iload dL_areLoops_342 rfl ?_
          refine V_if_lt dL_areLoops_344 (fun z => absurd z (fun z => absurd ((clt (by repeat (first | with_reducible rfl | with_reducible exact nlit | with_reducible apply nadd | with_reducible apply nmul | with_reducible apply nsub | with_reducible assumption | omega)) (by repeat (first | with_reducible rfl | with_reducible exact nlit | with_reducible apply nadd | with_reducible apply nmul | with_reducible apply nsub | with_reducible assumption | omega)) (by omega) (by omega)).mp z) (by omega))) (fun _ => ?_)
          refine V_iload dL_areLoops_347 rfl ?_
          refine V_iload dL_areLoops_349 rfl ?_
          refine V_iload dL_areLoops_351 rfl ?_
          refine V_imul dL_areLoops_353 ?_
          refine V_icmp_gt dL_areLoops_354 (fun z => absurd z (fun z => absurd ((clt (by repeat (first | with_reducible rfl | with_reducible exact nlit | with_reducible apply nadd | with_reducible apply nmul | with_reducible apply nsub | with_reducible assumption | omega)) (by repeat (first | with_reducible rfl | with_reducible exact nlit | with_reducible apply nadd | with_reducible apply nmul | with_reducible apply nsub | with_reducible assumption | omega)) (by omega) (by omega)).mp z) (by omega))) (fun _ => ?_)
          refine V_iload dL_areLoops_357 rfl ?_
          refine V_if_lt dL_areLoops_359 (fun z => absurd z (fun z => absurd ((clt (by repeat (first | with_reducible rfl | with_reducible exact nlit | with_reducible apply nadd | with_reducible apply nmul | with_reducible apply nsub | with_reducible assumption | omega)) (by repeat (first | with_reducible rfl | with_reducible exact nlit | with_reducible apply nadd | with_reducible apply nmul | with_reducible apply nsub | with_reducible assumption | omega)) (by omega) (by omega)).mp z) (by omega))) (fun _ => ?_)
          refine V_iload dL_areLoops_362 rfl ?_
          refine V_iconst (v := 3) dL_areLoops_364 (by decide) ?_
          refine V_icmp_ge dL_areLoops_365 (fun z => absurd z (fun z => absurd ((cle (by repeat (first | with_reducible rfl | with_reducible exact nlit | with_reducible apply nadd | with_reducible apply nmul | with_reducible apply nsub | with_reducible assumption | omega)) (by repeat (first | with_reducible rfl | with_reducible exact nlit | with_reducible apply nadd | with_reducible apply nmul | with_reducible apply nsub | with_reducible assumption | omega)) (by omega) (by omega)).mp z) (by omega))) (fun _ => ?_)
          refine V_iload dL_areLoops_368 rfl ?_
          refine V_if_ne dL_areLoops_370 (fun z => absurd z (fun z => z rfl)) (fun _ => ?_)
          refine V_iconst (v := 1) dL_areLoops_373 (by decide) ?_
          refine V_goto dL_areLoops_374 ?_
          refine V_iload dL_areLoops_378 rfl ?_
          refine V_iload dL_areLoops_380 rfl ?_
          refine V_iload dL_areLoops_382 rfl ?_
          refine V_imul dL_areLoops_384 ?_
          refine V_icmp_ne dL_areLoops_385 (fun z => absurd z (fun z => z ((ceq (by repeat (first | with_reducible rfl | with_reducible exact nlit | with_reducible apply nadd | with_reducible apply nmul | with_reducible apply nsub | with_reducible assumption | omega)) (by repeat (first | with_reducible rfl | with_reducible exact nlit | with_reducible apply nadd | with_reducible apply nmul | with_reducible apply nsub | with_reducible assumption | omega)) (by omega) (by omega)).mpr (by omega)))) (fun _ => ?_)
          refine V_iload dL_areLoops_388 rfl ?_
          refine V_iconst (v := 2) dL_areLoops_390 (by decide) ?_
          refine V_icmp_eq dL_areLoops_391 (fun z => absurd z (by decide)) (fun _ => ?_)
          refine V_iconst (v := 1) dL_areLoops_394 (by decide) ?_
          refine V_goto dL_areLoops_395 ?_
          refine V_icmp_ne dL_areLoops_399 (fun z => absurd z (fun z => z rfl)) (fun _ => ?_)
          refine V_aload_n dL_areLoops_402 rfl ?_
          refine V_iload_n dL_areLoops_403 rfl ?_
          refine V_iload dL_areLoops_404 rfl ?_
          refine V_iconst (v := 4) dL_areLoops_406 (by decide) ?_
          refine V_rq dL_areLoops_407 kL_48 ykX6_ifPlayed rfl (Rq_e v4 (q_ifPlayed 4 hn ⟨b5, b6⟩ (by decide) hI hD)) rfl (Nat.le_of_ble_eq_true rfl) ⟨by decide, by decide, by decide, by decide⟩ (fun D hD => ?_)
          refine V_iload dL_areLoops_410 rfl ?_
          refine V_icmp_gt dL_areLoops_412 (fun z => absurd z (fun z => absurd ((clt (by repeat (first | with_reducible rfl | with_reducible exact nlit | with_reducible apply nadd | with_reducible apply nmul | with_reducible apply nsub | with_reducible assumption | omega)) (by repeat (first | with_reducible rfl | with_reducible exact nlit | with_reducible apply nadd | with_reducible apply nmul | with_reducible apply nsub | with_reducible assumption | omega)) (by omega) (by omega)).mp z) (by omega))) (fun _ => ?_)
          refine V_iload dL_areLoops_415 rfl ?_
          refine V_iconst (v := 1) dL_areLoops_417 (by decide) ?_
          refine V_icmp_ne dL_areLoops_418 (fun _ => ?_) (fun z => absurd z ((by decide)))
          refine V_iconst (v := 1) dL_areLoops_426 (by decide) ?_
          refine V_goto dL_areLoops_427 ?_
          refine V_istore_n dL_areLoops_431 (by decide) (by dsimp only [List.set] <;> rfl) rfl ?_
          refine V_iconst (v := 0) dL_areLoops_432 (by decide) ?_
          refine V_istore dL_areLoops_433 (by decide) (by dsimp only [List.set] <;> rfl) rfl ?_
          exact kF A _ tc 0 x11 x12 D hD (by omega)
        · rw [← hP, r1] at v1
          rw [hP] at v1
          have hnal : ¬ AL (ll n) := fun z => r6 (inR_mid (b7 j r3).2.1 (b7 j r3).2.2 (T := lt n - 1) (by omega) ((hAL (ll n)).mp z j r3) (by omega))
          refine V_istore_n dL_areLoops_301 (by decide) (by dsimp only [List.set] <;> rfl) rfl ?_
          refine V_iload_n dL_areLoops_302 rfl ?_
          refine V_if_eq dL_areLoops_303 (fun z => absurd z (by decide)) (fun _ => ?_)
          refine V_aload_n dL_areLoops_306 rfl ?_
          refine V_iload_n dL_areLoops_307 rfl ?_
          refine V_iload dL_areLoops_308 rfl ?_
          refine V_iconst (v := 0) dL_areLoops_310 (by decide) ?_
          refine V_rq dL_areLoops_311 kL_48 ykX6_ifPlayed rfl (Rq_e v0 (q_ifPlayed 0 hn ⟨b5, b6⟩ (by decide) hI hD)) rfl (Nat.le_of_ble_eq_true rfl) ⟨by decide, by decide, by decide, by decide⟩ (fun D hD => ?_)
          refine V_goto dL_areLoops_314 ?_
          refine V_istore dL_areLoops_318 (by decide) (by dsimp only [List.set] <;> rfl) rfl ?_
          refine V_iload_n dL_areLoops_320 rfl ?_
          refine V_if_eq dL_areLoops_321 (fun z => absurd z (by decide)) (fun _ => ?_)
          refine V_aload_n dL_areLoops_324 rfl ?_
          refine V_iload_n dL_areLoops_325 rfl ?_
          refine V_iload dL_areLoops_326 rfl ?_
          refine V_iconst (v := 1) dL_areLoops_328 (by decide) ?_
          refine V_rq dL_areLoops_329 kL_48 ykX6_ifPlayed rfl (Rq_e v1 (q_ifPlayed 1 hn ⟨b5, b6⟩ (by decide) hI hD)) rfl (Nat.le_of_ble_eq_true rfl) ⟨by decide, by decide, by decide, by decide⟩ (fun D hD => ?_)
          refine V_goto dL_areLoops_332 ?_
          refine V_istore dL_areLoops_336 (by decide) (by dsimp only [List.set] <;> rfl) rfl ?_
          refine V_iload_n dL_areLoops_338 rfl ?_
          refine V_if_eq dL_areLoops_339 (fun z => absurd z (by decide)) (fun _ => ?_)
          refine V_iload dL_areLoops_342 rfl ?_
          refine V_if_lt dL_areLoops_344 (fun z => absurd z (fun z => absurd ((clt (by repeat (first | with_reducible rfl | with_reducible exact nlit | with_reducible apply nadd | with_reducible apply nmul | with_reducible apply nsub | with_reducible assumption | omega)) (by repeat (first | with_reducible rfl | with_reducible exact nlit | with_reducible apply nadd | with_reducible apply nmul | with_reducible apply nsub | with_reducible assumption | omega)) (by omega) (by omega)).mp z) (by omega))) (fun _ => ?_)
          refine V_iload dL_areLoops_347 rfl ?_
          refine V_iload dL_areLoops_349 rfl ?_
          refine V_iload dL_areLoops_351 rfl ?_
          refine V_imul dL_areLoops_353 ?_
          refine V_icmp_gt dL_areLoops_354 (fun z => absurd z (fun z => absurd ((clt (by repeat (first | with_reducible rfl | with_reducible exact nlit | with_reducible apply nadd | with_reducible apply nmul | with_reducible apply nsub | with_reducible assumption | omega)) (by repeat (first | with_reducible rfl | with_reducible exact nlit | with_reducible apply nadd | with_reducible apply nmul | with_reducible apply nsub | with_reducible assumption | omega)) (by omega) (by omega)).mp z) (by omega))) (fun _ => ?_)
          refine V_iload dL_areLoops_357 rfl ?_
          refine V_if_lt dL_areLoops_359 (fun z => absurd z (fun z => absurd ((clt (by repeat (first | with_reducible rfl | with_reducible exact nlit | with_reducible apply nadd | with_reducible apply nmul | with_reducible apply nsub | with_reducible assumption | omega)) (by repeat (first | with_reducible rfl | with_reducible exact nlit | with_reducible apply nadd | with_reducible apply nmul | with_reducible apply nsub | with_reducible assumption | omega)) (by omega) (by omega)).mp z) (by omega))) (fun _ => ?_)
          refine V_iload dL_areLoops_362 rfl ?_
          refine V_iconst (v := 3) dL_areLoops_364 (by decide) ?_
          refine V_icmp_ge dL_areLoops_365 (fun z => absurd z (fun z => absurd ((cle (by repeat (first | with_reducible rfl | with_reducible exact nlit | with_reducible apply nadd | with_reducible apply nmul | with_reducible apply nsub | with_reducible assumption | omega)) (by repeat (first | with_reducible rfl | with_reducible exact nlit | with_reducible apply nadd | with_reducible apply nmul | with_reducible apply nsub | with_reducible assumption | omega)) (by omega) (by omega)).mp z) (by omega))) (fun _ => ?_)
          refine V_iload dL_areLoops_368 rfl ?_
          refine V_if_ne dL_areLoops_370 (fun _ => ?_) (fun z => absurd z ((by decide)))
          refine V_iconst (v := 0) dL_areLoops_377 (by decide) ?_
          refine V_iload dL_areLoops_378 rfl ?_
          refine V_iload dL_areLoops_380 rfl ?_
          refine V_iload dL_areLoops_382 rfl ?_
          refine V_imul dL_areLoops_384 ?_
          refine V_icmp_ne dL_areLoops_385 (fun _ => ?_) (fun z => absurd z ((fun z => absurd ((ceq (by repeat (first | with_reducible rfl | with_reducible exact nlit | with_reducible apply nadd | with_reducible apply nmul | with_reducible apply nsub | with_reducible assumption | omega)) (by repeat (first | with_reducible rfl | with_reducible exact nlit | with_reducible apply nadd | with_reducible apply nmul | with_reducible apply nsub | with_reducible assumption | omega)) (by omega) (by omega)).mp z) (by omega))))
          refine V_iconst (v := 0) dL_areLoops_398 (by decide) ?_
          refine V_icmp_ne dL_areLoops_399 (fun z => absurd z (fun z => z rfl)) (fun _ => ?_)
          refine V_aload_n dL_areLoops_402 rfl ?_
          refine V_iload_n dL_areLoops_403 rfl ?_
          refine V_iload dL_areLoops_404 rfl ?_
          refine V_iconst (v := 4) dL_areLoops_406 (by decide) ?_
          refine V_rq dL_areLoops_407 kL_48 ykX6_ifPlayed rfl (Rq_e v4 (q_ifPlayed 4 hn ⟨b5, b6⟩ (by decide) hI hD)) rfl (Nat.le_of_ble_eq_true rfl) ⟨by decide, by decide, by decide, by decide⟩ (fun D hD => ?_)
          refine V_iload dL_areLoops_410 rfl ?_
          refine V_icmp_gt dL_areLoops_412 (fun z => absurd z (fun z => absurd ((clt (by repeat (first | with_reducible rfl | with_reducible exact nlit | with_reducible apply nadd | with_reducible apply nmul | with_reducible apply nsub | with_reducible assumption | omega)) (by repeat (first | with_reducible rfl | with_reducible exact nlit | with_reducible apply nadd | with_reducible apply nmul | with_reducible apply nsub | with_reducible assumption | omega)) (by omega) (by omega)).mp z) (by omega))) (fun _ => ?_)
          refine V_iload dL_areLoops_415 rfl ?_
          refine V_iconst (v := 1) dL_areLoops_417 (by decide) ?_
          refine V_icmp_ne dL_areLoops_418 (fun z => absurd z (fun z => z rfl)) (fun _ => ?_)
          refine V_iload dL_areLoops_421 rfl ?_
          refine V_if_ne dL_areLoops_423 (fun z => absurd z (fun z => z (hA0 hnal))) (fun _ => ?_)
          refine V_iconst (v := 1) dL_areLoops_426 (by decide) ?_
          refine V_goto dL_areLoops_427 ?_
          refine V_istore_n dL_areLoops_431 (by decide) (by dsimp only [List.set] <;> rfl) rfl ?_
          refine V_iconst (v := 0) dL_areLoops_432 (by decide) ?_
          refine V_istore dL_areLoops_433 (by decide) (by dsimp only [List.set] <;> rfl) rfl ?_
          exact kF A _ tc 0 x11 x12 D hD (by omega)
        · rw [← hP, r1] at v1
          rw [hP] at v1
          refine V_istore_n dL_areLoops_301 (by decide) (by dsimp only [List.set] <;> rfl) rfl ?_
          refine V_iload_n dL_areLoops_302 rfl ?_
          refine V_if_eq dL_areLoops_303 (fun z => absurd z (by decide)) (fun _ => ?_)
          refine V_aload_n dL_areLoops_306 rfl ?_
          refine V_iload_n dL_areLoops_307 rfl ?_
          refine V_iload dL_areLoops_308 rfl ?_
          refine V_iconst (v := 0) dL_areLoops_310 (by decide) ?_
          refine V_rq dL_areLoops_311 kL_48 ykX6_ifPlayed rfl (Rq_e v0 (q_ifPlayed 0 hn ⟨b5, b6⟩ (by decide) hI hD)) rfl (Nat.le_of_ble_eq_true rfl) ⟨by decide, by decide, by decide, by decide⟩ (fun D hD => ?_)
          refine V_goto dL_areLoops_314 ?_
          refine V_istore dL_areLoops_318 (by decide) (by dsimp only [List.set] <;> rfl) rfl ?_
          refine V_iload_n dL_areLoops_320 rfl ?_
          refine V_if_eq dL_areLoops_321 (fun z => absurd z (by decide)) (fun _ => ?_)
          refine V_aload_n dL_areLoops_324 rfl ?_
          refine V_iload_n dL_areLoops_325 rfl ?_
          refine V_iload dL_areLoops_326 rfl ?_
          refine V_iconst (v := 1) dL_areLoops_328 (by decide) ?_
          refine V_rq dL_areLoops_329 kL_48 ykX6_ifPlayed rfl (Rq_e v1 (q_ifPlayed 1 hn ⟨b5, b6⟩ (by decide) hI hD)) rfl (Nat.le_of_ble_eq_true rfl) ⟨by decide, by decide, by decide, by decide⟩ (fun D hD => ?_)
          refine V_goto dL_areLoops_332 ?_
          refine V_istore dL_areLoops_336 (by decide) (by dsimp only [List.set] <;> rfl) rfl ?_
          refine V_iload_n dL_areLoops_338 rfl ?_
          refine V_if_eq dL_areLoops_339 (fun z => absurd z (by decide)) (fun _ => ?_)
          refine V_iload dL_areLoops_342 rfl ?_
          refine V_if_lt dL_areLoops_344 (fun z => absurd z (fun z => absurd ((clt (by repeat (first | with_reducible rfl | with_reducible exact nlit | with_reducible apply nadd | with_reducible apply nmul | with_reducible apply nsub | with_reducible assumption | omega)) (by repeat (first | with_reducible rfl | with_reducible exact nlit | with_reducible apply nadd | with_reducible apply nmul | with_reducible apply nsub | with_reducible assumption | omega)) (by omega) (by omega)).mp z) (by omega))) (fun _ => ?_)
          refine V_iload dL_areLoops_347 rfl ?_
          refine V_iload dL_areLoops_349 rfl ?_
          refine V_iload dL_areLoops_351 rfl ?_
          refine V_imul dL_areLoops_353 ?_
          refine V_icmp_gt dL_areLoops_354 (fun z => absurd z (fun z => absurd ((clt (by repeat (first | with_reducible rfl | with_reducible exact nlit | with_reducible apply nadd | with_reducible apply nmul | with_reducible apply nsub | with_reducible assumption | omega)) (by repeat (first | with_reducible rfl | with_reducible exact nlit | with_reducible apply nadd | with_reducible apply nmul | with_reducible apply nsub | with_reducible assumption | omega)) (by omega) (by omega)).mp z) (by omega))) (fun _ => ?_)
          refine V_iload dL_areLoops_357 rfl ?_
          refine V_if_lt dL_areLoops_359 (fun z => absurd z (fun z => absurd ((clt (by repeat (first | with_reducible rfl | with_reducible exact nlit | with_reducible apply nadd | with_reducible apply nmul | with_reducible apply nsub | with_reducible assumption | omega)) (by repeat (first | with_reducible rfl | with_reducible exact nlit | with_reducible apply nadd | with_reducible apply nmul | with_reducible apply nsub | with_reducible assumption | omega)) (by omega) (by omega)).mp z) (by omega))) (fun _ => ?_)
          refine V_iload dL_areLoops_362 rfl ?_
          refine V_iconst (v := 3) dL_areLoops_364 (by decide) ?_
          refine V_icmp_ge dL_areLoops_365 (fun z => absurd z (fun z => absurd ((cle (by repeat (first | with_reducible rfl | with_reducible exact nlit | with_reducible apply nadd | with_reducible apply nmul | with_reducible apply nsub | with_reducible assumption | omega)) (by repeat (first | with_reducible rfl | with_reducible exact nlit | with_reducible apply nadd | with_reducible apply nmul | with_reducible apply nsub | with_reducible assumption | omega)) (by omega) (by omega)).mp z) (by omega))) (fun _ => ?_)
          refine V_iload dL_areLoops_368 rfl ?_
          refine V_if_ne dL_areLoops_370 (fun _ => ?_) (fun z => absurd z ((by decide)))
          have k398 : ∀ D, SC C D → V G l RL "areLoops" cL_areLoops 13 (some .boolean) (rmd 6 0 0) E0 (Qm G (Rq G a C 1) sz 0 0) sz 0 0 398 [some (.ref a), some (.int (nI lc)), some (.int 1), some (.int (nI n)), some (.int (nI (ll n))), some (.int (nI (lt n))), some (.int M), some (.int A), some (.int (nI d)), some (.int 2), x10, x11, x12] [.int 0] (B G a D) := by
            intro D hD
            refine V_iconst (v := 0) dL_areLoops_398 (by decide) ?_
            refine V_icmp_ne dL_areLoops_399 (fun z => absurd z (fun z => z rfl)) (fun _ => ?_)
            refine V_aload_n dL_areLoops_402 rfl ?_
            refine V_iload_n dL_areLoops_403 rfl ?_
            refine V_iload dL_areLoops_404 rfl ?_
            refine V_iconst (v := 4) dL_areLoops_406 (by decide) ?_
            refine V_rq dL_areLoops_407 kL_48 ykX6_ifPlayed rfl (Rq_e v4 (q_ifPlayed 4 hn ⟨b5, b6⟩ (by decide) hI hD)) rfl (Nat.le_of_ble_eq_true rfl) ⟨by decide, by decide, by decide, by decide⟩ (fun D hD => ?_)
            refine V_iload dL_areLoops_410 rfl ?_
            refine V_icmp_gt dL_areLoops_412 (fun z => absurd z (fun z => absurd ((clt (by repeat (first | with_reducible rfl | with_reducible exact nlit | with_reducible apply nadd | with_reducible apply nmul | with_reducible apply nsub | with_reducible assumption | omega)) (by repeat (first | with_reducible rfl | with_reducible exact nlit | with_reducible apply nadd | with_reducible apply nmul | with_reducible apply nsub | with_reducible assumption | omega)) (by omega) (by omega)).mp z) (by omega))) (fun _ => ?_)
            refine V_iload dL_areLoops_415 rfl ?_
            refine V_iconst (v := 1) dL_areLoops_417 (by decide) ?_
            refine V_icmp_ne dL_areLoops_418 (fun _ => ?_) (fun z => absurd z ((by decide)))
            refine V_iconst (v := 1) dL_areLoops_426 (by decide) ?_
            refine V_goto dL_areLoops_427 ?_
            refine V_istore_n dL_areLoops_431 (by decide) (by dsimp only [List.set] <;> rfl) rfl ?_
            refine V_iconst (v := 0) dL_areLoops_432 (by decide) ?_
            refine V_istore dL_areLoops_433 (by decide) (by dsimp only [List.set] <;> rfl) rfl ?_
            exact kF A _ tc 0 x11 x12 D hD (by omega)
          by_cases hd2 : d = ll n * lt n
          · refine V_iconst (v := 0) dL_areLoops_377 (by decide) ?_
            refine V_iload dL_areLoops_378 rfl ?_
            refine V_iload dL_areLoops_380 rfl ?_
            refine V_iload dL_areLoops_382 rfl ?_
            refine V_imul dL_areLoops_384 ?_
            refine V_icmp_ne dL_areLoops_385 (fun z => absurd z (fun z => z ((ceq (by repeat (first | with_reducible rfl | with_reducible exact nlit | with_reducible apply nadd | with_reducible apply nmul | with_reducible apply nsub | with_reducible assumption | omega)) (by repeat (first | with_reducible rfl | with_reducible exact nlit | with_reducible apply nadd | with_reducible apply nmul | with_reducible apply nsub | with_reducible assumption | omega)) (by omega) (by omega)).mpr (by omega)))) (fun _ => ?_)
            refine V_iload dL_areLoops_388 rfl ?_
            refine V_iconst (v := 2) dL_areLoops_390 (by decide) ?_
            refine V_icmp_eq dL_areLoops_391 (fun _ => ?_) (fun z => absurd rfl z)
            exact k398 D hD
          · refine V_iconst (v := 0) dL_areLoops_377 (by decide) ?_
            refine V_iload dL_areLoops_378 rfl ?_
            refine V_iload dL_areLoops_380 rfl ?_
            refine V_iload dL_areLoops_382 rfl ?_
            refine V_imul dL_areLoops_384 ?_
            refine V_icmp_ne dL_areLoops_385 (fun _ => ?_) (fun z => absurd z ((fun z => absurd ((ceq (by repeat (first | with_reducible rfl | with_reducible exact nlit | with_reducible apply nadd | with_reducible apply nmul | with_reducible apply nsub | with_reducible assumption | omega)) (by repeat (first | with_reducible rfl | with_reducible exact nlit | with_reducible apply nadd | with_reducible apply nmul | with_reducible apply nsub | with_reducible assumption | omega)) (by omega) (by omega)).mp z) (by omega))))
            exact k398 D hD
      have kA : ∀ (q k : Nat) (A : Int32) (x9 x10 x11 x12 : Option Value) (D : CT), SC C D → k + q = ll n → (AL k → A = 1) → (¬ AL k → A = 0) → V G l RL "areLoops" cL_areLoops 13 (some .boolean) (rmd 6 0 0) E0 (Qm G (Rq G a C 1) sz 0 0) sz 0 0 104 [some (.ref a), some (.int (nI lc)), some (.int 1), some (.int (nI n)), some (.int (nI (ll n))), some (.int (nI (lt n))), some (.int M), some (.int A), some (.int (nI k)), x9, x10, x11, x12] [] (B G a D) := by
        intro q
        induction q with
        | zero =>
          intro k A x9 x10 x11 x12 D hD hk hA1 hA0
          obtain rfl : k = ll n := by omega
          refine V_iload dL_areLoops_104 rfl ?_
          refine V_iload dL_areLoops_106 rfl ?_
          refine V_icmp_ge dL_areLoops_108 (fun _ => ?_) (fun z => absurd ((cle (by repeat (first | with_reducible rfl | with_reducible exact nlit | with_reducible apply nadd | with_reducible apply nmul | with_reducible apply nsub | with_reducible assumption | omega)) (by repeat (first | with_reducible rfl | with_reducible exact nlit | with_reducible apply nadd | with_reducible apply nmul | with_reducible apply nsub | with_reducible assumption | omega)) (by omega) (by omega)).mpr (by omega)) z)
          refine V_iload_n dL_areLoops_268 rfl ?_
          refine V_if_eq dL_areLoops_269 (fun z => absurd z (by decide)) (fun _ => ?_)
          rcases hM2 with ⟨m1, m2⟩ | ⟨q', m1, m2, m3⟩
          · have hal : AL (ll n) := (hAL _).mpr (fun j hj => by
              have e : C 13 (n * 12 + j) = 0 := m2 j hj
              rw [e, Int32.mul_zero, i_add0]
              exact (b7 j hj).2.1)
            refine V_iload dL_areLoops_272 rfl ?_
            refine V_bipush (v := (-5)) dL_areLoops_274 (by decide) ?_
            refine V_icmp_eq dL_areLoops_276 (fun _ => ?_) (fun z => absurd m1 z)
            refine V_iconst (v := 1) dL_areLoops_286 (by decide) ?_
            refine V_goto dL_areLoops_287 ?_
            refine V_iload dL_areLoops_291 rfl ?_
            refine V_toe (hA1 hal) ?_
            refine V_icmp_ne dL_areLoops_293 (fun z => absurd z (fun z => z rfl)) (fun _ => ?_)
            refine V_iconst (v := 1) dL_areLoops_296 (by decide) ?_
            refine V_goto dL_areLoops_297 ?_
            exact kP A _ x9 x10 x11 x12 D hD hA1 hA0
          · have m5 : ¬ M = -5 := by rw [m2]; exact n5 (by omega)
            have hiff : lt n - 1 ≤ q' ↔ AL (ll n) := (m3 (lt n - 1) (by omega)).trans (hAL _).symm
            refine V_iload dL_areLoops_272 rfl ?_
            refine V_bipush (v := (-5)) dL_areLoops_274 (by decide) ?_
            refine V_icmp_eq dL_areLoops_276 (fun z => absurd z m5) (fun _ => ?_)
            refine V_iload dL_areLoops_279 rfl ?_
            refine V_toe m2 ?_
            refine V_iload dL_areLoops_281 rfl ?_
            by_cases hq : lt n ≤ q' + 1
            · refine V_icmp_lt dL_areLoops_283 (fun z => absurd z (fun z => absurd ((clt (by repeat (first | with_reducible rfl | with_reducible exact nlit | with_reducible apply nadd | with_reducible apply nmul | with_reducible apply nsub | with_reducible assumption | omega)) (by repeat (first | with_reducible rfl | with_reducible exact nlit | with_reducible apply nadd | with_reducible apply nmul | with_reducible apply nsub | with_reducible assumption | omega)) (by omega) (by omega)).mp z) (by omega))) (fun _ => ?_)
              refine V_iconst (v := 1) dL_areLoops_286 (by decide) ?_
              refine V_goto dL_areLoops_287 ?_
              refine V_iload dL_areLoops_291 rfl ?_
              refine V_toe (hA1 (hiff.mp (by omega))) ?_
              refine V_icmp_ne dL_areLoops_293 (fun z => absurd z (fun z => z rfl)) (fun _ => ?_)
              refine V_iconst (v := 1) dL_areLoops_296 (by decide) ?_
              refine V_goto dL_areLoops_297 ?_
              exact kP A _ x9 x10 x11 x12 D hD hA1 hA0
            · refine V_icmp_lt dL_areLoops_283 (fun _ => ?_) (fun z => absurd ((clt (by repeat (first | with_reducible rfl | with_reducible exact nlit | with_reducible apply nadd | with_reducible apply nmul | with_reducible apply nsub | with_reducible assumption | omega)) (by repeat (first | with_reducible rfl | with_reducible exact nlit | with_reducible apply nadd | with_reducible apply nmul | with_reducible apply nsub | with_reducible assumption | omega)) (by omega) (by omega)).mpr (by omega)) z)
              refine V_iconst (v := 0) dL_areLoops_290 (by decide) ?_
              refine V_iload dL_areLoops_291 rfl ?_
              refine V_toe (hA0 (fun z => hq (by have := hiff.mpr z; omega))) ?_
              refine V_icmp_ne dL_areLoops_293 (fun z => absurd z (fun z => z rfl)) (fun _ => ?_)
              refine V_iconst (v := 1) dL_areLoops_296 (by decide) ?_
              refine V_goto dL_areLoops_297 ?_
              exact kP A _ x9 x10 x11 x12 D hD hA1 hA0
        | succ q ihq =>
          intro k A x9 x10 x11 x12 D hD hk hA1 hA0
          have hk' : k < ll n := by omega
          obtain ⟨g1, g2, g3⟩ := b7 k hk'
          have ec : C 13 (n * 12 + k) + 1000 - 1000 = C 13 (n * 12 + k) := Int32.add_sub_cancel _ _
          have el : C 12 (n * 12 + k) + nI (lt n - 1) * C 13 (n * 12 + k) + 10000 - 10000 = C 12 (n * 12 + k) + nI (lt n - 1) * C 13 (n * 12 + k) := Int32.add_sub_cancel _ _
          have k190 : ∀ (A : Int32) (D : CT), SC C D → (AL (k + 1) → A = 1) → (¬ AL (k + 1) → A = 0) → V G l RL "areLoops" cL_areLoops 13 (some .boolean) (rmd 6 0 0) E0 (Qm G (Rq G a C 1) sz 0 0) sz 0 0 190 [some (.ref a), some (.int (nI lc)), some (.int 1), some (.int (nI n)), some (.int (nI (ll n))), some (.int (nI (lt n))), some (.int M), some (.int A), some (.int (nI k)), some (.int (C 11 (n * 12 + k))), some (.int (C 12 (n * 12 + k))), some (.int (C 13 (n * 12 + k))), some (.int (C 12 (n * 12 + k) + nI (lt n - 1) * C 13 (n * 12 + k)))] [] (B G a D) := by
            intro A D hD hA1 hA0
            have f199 : ¬ (6 : Int32) ≤ C 11 (n * 12 + k) := fun z => by
              have q1 := g1.2
              rw [i_le] at q1 z
              have e6 : (6 : Int32).toInt = 6 := rfl
              have e5 : (5 : Int32).toInt = 5 := rfl
              omega
            have f221 : ¬ C 13 (n * 12 + k) ≤ (-100 : Int32) := fun z => by
              rw [i_le] at z
              have e6 : (-100 : Int32).toInt = -100 := rfl
              have := g3.1
              omega
            have f228 : ¬ (100 : Int32) ≤ C 13 (n * 12 + k) := fun z => by
              rw [i_le] at z
              have e6 : (100 : Int32).toInt = 100 := rfl
              have := g3.2
              omega
            refine V_iload dL_areLoops_190 rfl ?_
            refine V_if_lt dL_areLoops_192 (fun z => absurd z (Int32.not_lt.mpr g1.1)) (fun _ => ?_)
            refine V_iload dL_areLoops_195 rfl ?_
            refine V_bipush (v := 6) dL_areLoops_197 (by decide) ?_
            refine V_icmp_ge dL_areLoops_199 (fun z => absurd z f199) (fun _ => ?_)
            refine V_iload dL_areLoops_202 rfl ?_
            refine V_if_lt dL_areLoops_204 (fun z => absurd z (Int32.not_lt.mpr g2.1)) (fun _ => ?_)
            refine V_iload dL_areLoops_207 rfl ?_
            refine V_iload dL_areLoops_209 rfl ?_
            refine V_callSr dL_areLoops_211 kL_39 ykL_greatest (tL_greatest _) rfl (Nat.le_of_ble_eq_true rfl) ⟨by decide, by decide, by decide, by decide⟩ ?_
            refine V_icmp_gt dL_areLoops_214 (fun z => absurd z (Int32.not_lt.mpr g2.2)) (fun _ => ?_)
            refine V_iload dL_areLoops_217 rfl ?_
            refine V_bipush (v := (-100)) dL_areLoops_219 (by decide) ?_
            refine V_icmp_le dL_areLoops_221 (fun z => absurd z f221) (fun _ => ?_)
            refine V_iload dL_areLoops_224 rfl ?_
            refine V_bipush (v := 100) dL_areLoops_226 (by decide) ?_
            refine V_icmp_ge dL_areLoops_228 (fun z => absurd z f228) (fun _ => ?_)
            refine V_iload dL_areLoops_231 rfl ?_
            refine V_iload dL_areLoops_233 rfl ?_
            refine V_iload dL_areLoops_235 rfl ?_
            refine V_iconst (v := 1) dL_areLoops_237 (by decide) ?_
            refine V_isub dL_areLoops_238 ?_
            refine V_toe (nsub rfl (nlit (n := 1)) b5) ?_
            refine V_iload dL_areLoops_239 rfl ?_
            refine V_imul dL_areLoops_241 ?_
            refine V_iadd dL_areLoops_242 ?_
            refine V_icmp_ne dL_areLoops_243 (fun z => absurd z (fun z => z rfl)) (fun _ => ?_)
            by_cases hs : C 13 (n * 12 + k) = 0
            · refine V_iload dL_areLoops_246 rfl ?_
              refine V_if_eq dL_areLoops_248 (fun _ => ?_) (fun z => absurd hs z)
              refine V_iconst (v := 1) dL_areLoops_256 (by decide) ?_
              refine V_goto dL_areLoops_257 ?_
              refine V_istore_n dL_areLoops_261 (by decide) (by dsimp only [List.set] <;> rfl) rfl ?_
              refine V_iinc dL_areLoops_262 rfl (ninc _) (by decide) (by dsimp only [List.set] <;> rfl) ?_
              refine V_goto dL_areLoops_265 ?_
              exact ihq (k + 1) A _ _ _ _ D hD (by omega) hA1 hA0
            · refine V_iload dL_areLoops_246 rfl ?_
              refine V_if_eq dL_areLoops_248 (fun z => absurd z hs) (fun _ => ?_)
              rcases hM2 with ⟨m1, m2⟩ | ⟨q', m1, m2, m3⟩
              · exact absurd (m2 k hk') hs
              · refine V_iload dL_areLoops_251 rfl ?_
                refine V_toe m2 ?_
                refine V_if_le dL_areLoops_253 (fun z => absurd z (fun z => absurd ((cle (by repeat (first | with_reducible rfl | with_reducible exact nlit | with_reducible apply nadd | with_reducible apply nmul | with_reducible apply nsub | with_reducible assumption | omega)) (by repeat (first | with_reducible rfl | with_reducible exact nlit | with_reducible apply nadd | with_reducible apply nmul | with_reducible apply nsub | with_reducible assumption | omega)) (by omega) (by omega)).mp z) (by omega))) (fun _ => ?_)
                refine V_iconst (v := 1) dL_areLoops_256 (by decide) ?_
                refine V_goto dL_areLoops_257 ?_
                refine V_istore_n dL_areLoops_261 (by decide) (by dsimp only [List.set] <;> rfl) rfl ?_
                refine V_iinc dL_areLoops_262 rfl (ninc _) (by decide) (by dsimp only [List.set] <;> rfl) ?_
                refine V_goto dL_areLoops_265 ?_
                exact ihq (k + 1) A _ _ _ _ D hD (by omega) hA1 hA0
          refine V_iload dL_areLoops_104 rfl ?_
          refine V_iload dL_areLoops_106 rfl ?_
          refine V_icmp_ge dL_areLoops_108 (fun z => absurd z (fun z => absurd ((cle (by repeat (first | with_reducible rfl | with_reducible exact nlit | with_reducible apply nadd | with_reducible apply nmul | with_reducible apply nsub | with_reducible assumption | omega)) (by repeat (first | with_reducible rfl | with_reducible exact nlit | with_reducible apply nadd | with_reducible apply nmul | with_reducible apply nsub | with_reducible assumption | omega)) (by omega) (by omega)).mp z) (by omega))) (fun _ => ?_)
          refine V_iload_n dL_areLoops_111 rfl ?_
          refine V_if_eq dL_areLoops_112 (fun z => absurd z (by decide)) (fun _ => ?_)
          refine V_aload_n dL_areLoops_115 rfl ?_
          refine V_iload_n dL_areLoops_116 rfl ?_
          refine V_iload dL_areLoops_117 rfl ?_
          refine V_iconst (v := 0) dL_areLoops_119 (by decide) ?_
          refine V_rq dL_areLoops_120 kL_31 ykX6_ofLoop rfl (q_oL0 hn hk' hI hD) rfl (Nat.le_of_ble_eq_true rfl) ⟨by decide, by decide, by decide, by decide⟩ (fun D hD => ?_)
          refine V_istore dL_areLoops_123 (by decide) (by dsimp only [List.set] <;> rfl) rfl ?_
          refine V_aload_n dL_areLoops_125 rfl ?_
          refine V_iload_n dL_areLoops_126 rfl ?_
          refine V_iload dL_areLoops_127 rfl ?_
          refine V_iconst (v := 1) dL_areLoops_129 (by decide) ?_
          refine V_rq dL_areLoops_130 kL_31 ykX6_ofLoop rfl (q_oL1 hn hk' hI hD) rfl (Nat.le_of_ble_eq_true rfl) ⟨by decide, by decide, by decide, by decide⟩ (fun D hD => ?_)
          refine V_istore dL_areLoops_133 (by decide) (by dsimp only [List.set] <;> rfl) rfl ?_
          refine V_aload_n dL_areLoops_135 rfl ?_
          refine V_iload_n dL_areLoops_136 rfl ?_
          refine V_iload dL_areLoops_137 rfl ?_
          refine V_iconst (v := 2) dL_areLoops_139 (by decide) ?_
          refine V_rq dL_areLoops_140 kL_31 ykX6_ofLoop rfl (q_oL2 hn hk' hI hD) rfl (Nat.le_of_ble_eq_true rfl) ⟨by decide, by decide, by decide, by decide⟩ (fun D hD => ?_)
          refine V_sipush (v := 1000) dL_areLoops_143 (by decide) ?_
          refine V_isub dL_areLoops_146 ?_
          refine V_toe ec ?_
          refine V_istore dL_areLoops_147 (by decide) (by dsimp only [List.set] <;> rfl) rfl ?_
          refine V_aload_n dL_areLoops_149 rfl ?_
          refine V_iload_n dL_areLoops_150 rfl ?_
          refine V_iload dL_areLoops_151 rfl ?_
          refine V_iconst (v := 3) dL_areLoops_153 (by decide) ?_
          refine V_rq dL_areLoops_154 kL_31 ykX6_ofLoop rfl (q_oL3 hn hk' hI hD) rfl (Nat.le_of_ble_eq_true rfl) ⟨by decide, by decide, by decide, by decide⟩ (fun D hD => ?_)
          refine V_sipush (v := 10000) dL_areLoops_157 (by decide) ?_
          refine V_isub dL_areLoops_160 ?_
          refine V_toe el ?_
          refine V_istore dL_areLoops_161 (by decide) (by dsimp only [List.set] <;> rfl) rfl ?_
          refine V_iload dL_areLoops_163 rfl ?_
          have hstep : AL (k + 1) ↔ AL k ∧ inR (C 11 (n * 12 + k)) (C 12 (n * 12 + k) + nI (lt n - 1) * C 13 (n * 12 + k)) := by
            rw [hAL, hAL]
            constructor
            · intro z
              exact ⟨fun j hj => z j (by omega), z k (by omega)⟩
            · rintro ⟨z1, z2⟩ j hj
              by_cases hjk : j = k
              · subst hjk; exact z2
              · exact z1 j (by omega)
          by_cases hal : AL k
          · refine V_toe (hA1 hal) ?_
            refine V_if_eq dL_areLoops_165 (fun z => absurd z (by decide)) (fun _ => ?_)
            refine V_iload dL_areLoops_168 rfl ?_
            by_cases hlo : C 12 (n * 12 + k) + nI (lt n - 1) * C 13 (n * 12 + k) < 0
            · refine V_if_lt dL_areLoops_170 (fun _ => ?_) (fun z => absurd hlo z)
              refine V_iconst (v := 0) dL_areLoops_187 (by decide) ?_
              refine V_istore dL_areLoops_188 (by decide) (by dsimp only [List.set] <;> rfl) rfl ?_
              exact k190 0 D hD (fun z => absurd ((hstep.mp z).2.1) (Int32.not_le.mpr hlo)) (fun _ => rfl)
            · refine V_if_lt dL_areLoops_170 (fun z => absurd z hlo) (fun _ => ?_)
              refine V_iload dL_areLoops_173 rfl ?_
              refine V_iload dL_areLoops_175 rfl ?_
              refine V_callSr dL_areLoops_177 kL_39 ykL_greatest (tL_greatest _) rfl (Nat.le_of_ble_eq_true rfl) ⟨by decide, by decide, by decide, by decide⟩ ?_
              by_cases hhi : gN (C 11 (n * 12 + k)) < C 12 (n * 12 + k) + nI (lt n - 1) * C 13 (n * 12 + k)
              · refine V_icmp_gt dL_areLoops_180 (fun _ => ?_) (fun z => absurd hhi z)
                refine V_iconst (v := 0) dL_areLoops_187 (by decide) ?_
                refine V_istore dL_areLoops_188 (by decide) (by dsimp only [List.set] <;> rfl) rfl ?_
                exact k190 0 D hD (fun z => absurd ((hstep.mp z).2.2) (Int32.not_le.mpr hhi)) (fun _ => rfl)
              · refine V_icmp_gt dL_areLoops_180 (fun z => absurd z hhi) (fun _ => ?_)
                refine V_iconst (v := 1) dL_areLoops_183 (by decide) ?_
                refine V_goto dL_areLoops_184 ?_
                refine V_istore dL_areLoops_188 (by decide) (by dsimp only [List.set] <;> rfl) rfl ?_
                exact k190 1 D hD (fun _ => rfl) (fun z => absurd (hstep.mpr ⟨hal, Int32.not_lt.mp hlo, Int32.not_lt.mp hhi⟩) z)
          · refine V_toe (hA0 hal) ?_
            refine V_if_eq dL_areLoops_165 (fun _ => ?_) (fun z => absurd rfl z)
            refine V_iconst (v := 0) dL_areLoops_187 (by decide) ?_
            refine V_istore dL_areLoops_188 (by decide) (by dsimp only [List.set] <;> rfl) rfl ?_
            exact k190 0 D hD (fun z => absurd (hstep.mp z).1 hal) (fun _ => rfl)
      refine V_iload_n dL_areLoops_24 rfl ?_
      refine V_iload_n dL_areLoops_25 rfl ?_
      refine V_icmp_ge dL_areLoops_26 (fun z => absurd z (fun z => absurd ((cle (by repeat (first | with_reducible rfl | with_reducible exact nlit | with_reducible apply nadd | with_reducible apply nmul | with_reducible apply nsub | with_reducible assumption | omega)) (by repeat (first | with_reducible rfl | with_reducible exact nlit | with_reducible apply nadd | with_reducible apply nmul | with_reducible apply nsub | with_reducible assumption | omega)) (by omega) (by omega)).mp z) (by omega))) (fun _ => ?_)
      refine V_iload_n dL_areLoops_29 rfl ?_
      refine V_if_eq dL_areLoops_30 (fun z => absurd z (by decide)) (fun _ => ?_)
      refine V_aload_n dL_areLoops_33 rfl ?_
      refine V_iload_n dL_areLoops_34 rfl ?_
      refine V_iconst (v := 1) dL_areLoops_35 (by decide) ?_
      refine V_rq dL_areLoops_36 kL_27 ykX6_length rfl (q_len1 hn hI hD) rfl (Nat.le_of_ble_eq_true rfl) ⟨by decide, by decide, by decide, by decide⟩ (fun D hD => ?_)
      refine V_istore dL_areLoops_39 (by decide) (by dsimp only [List.set] <;> rfl) rfl ?_
      refine V_aload_n dL_areLoops_41 rfl ?_
      refine V_iload_n dL_areLoops_42 rfl ?_
      refine V_iconst (v := 2) dL_areLoops_43 (by decide) ?_
      refine V_rq dL_areLoops_44 kL_27 ykX6_length rfl (q_len2 hn hI hD) rfl (Nat.le_of_ble_eq_true rfl) ⟨by decide, by decide, by decide, by decide⟩ (fun D hD => ?_)
      refine V_istore dL_areLoops_47 (by decide) (by dsimp only [List.set] <;> rfl) rfl ?_
      refine V_aload_n dL_areLoops_49 rfl ?_
      refine V_iload_n dL_areLoops_50 rfl ?_
      refine V_rq dL_areLoops_51 kL_45 ykX6_mostTurns rfl (Rq_e hM.symm (q_mostTurns hn hI hD)) rfl (Nat.le_of_ble_eq_true rfl) ⟨by decide, by decide, by decide, by decide⟩ (fun D hD => ?_)
      refine V_istore dL_areLoops_54 (by decide) (by dsimp only [List.set] <;> rfl) rfl ?_
      refine V_iconst (v := 1) dL_areLoops_56 (by decide) ?_
      refine V_istore dL_areLoops_57 (by decide) (by dsimp only [List.set] <;> rfl) rfl ?_
      refine V_iload dL_areLoops_59 rfl ?_
      refine V_if_le dL_areLoops_61 (fun z => absurd z (fun z => absurd ((cle (by repeat (first | with_reducible rfl | with_reducible exact nlit | with_reducible apply nadd | with_reducible apply nmul | with_reducible apply nsub | with_reducible assumption | omega)) (by repeat (first | with_reducible rfl | with_reducible exact nlit | with_reducible apply nadd | with_reducible apply nmul | with_reducible apply nsub | with_reducible assumption | omega)) (by omega) (by omega)).mp z) (by omega))) (fun _ => ?_)
      refine V_iload dL_areLoops_64 rfl ?_
      refine V_bipush (v := 13) dL_areLoops_66 (by decide) ?_
      refine V_icmp_ge dL_areLoops_68 (fun z => absurd z (fun z => absurd ((cle (by repeat (first | with_reducible rfl | with_reducible exact nlit | with_reducible apply nadd | with_reducible apply nmul | with_reducible apply nsub | with_reducible assumption | omega)) (by repeat (first | with_reducible rfl | with_reducible exact nlit | with_reducible apply nadd | with_reducible apply nmul | with_reducible apply nsub | with_reducible assumption | omega)) (by omega) (by omega)).mp z) (by omega))) (fun _ => ?_)
      refine V_iload dL_areLoops_71 rfl ?_
      refine V_if_le dL_areLoops_73 (fun z => absurd z (fun z => absurd ((cle (by repeat (first | with_reducible rfl | with_reducible exact nlit | with_reducible apply nadd | with_reducible apply nmul | with_reducible apply nsub | with_reducible assumption | omega)) (by repeat (first | with_reducible rfl | with_reducible exact nlit | with_reducible apply nadd | with_reducible apply nmul | with_reducible apply nsub | with_reducible assumption | omega)) (by omega) (by omega)).mp z) (by omega))) (fun _ => ?_)
      refine V_iload dL_areLoops_76 rfl ?_
      refine V_bipush (v := 100) dL_areLoops_78 (by decide) ?_
      refine V_icmp_ge dL_areLoops_80 (fun z => absurd z (fun z => absurd ((cle (by repeat (first | with_reducible rfl | with_reducible exact nlit | with_reducible apply nadd | with_reducible apply nmul | with_reducible apply nsub | with_reducible assumption | omega)) (by repeat (first | with_reducible rfl | with_reducible exact nlit | with_reducible apply nadd | with_reducible apply nmul | with_reducible apply nsub | with_reducible assumption | omega)) (by omega) (by omega)).mp z) (by omega))) (fun _ => ?_)
      refine V_aload_n dL_areLoops_83 rfl ?_
      refine V_iload_n dL_areLoops_84 rfl ?_
      refine V_iload dL_areLoops_85 rfl ?_
      refine V_iconst (v := 0) dL_areLoops_87 (by decide) ?_
      refine V_rq dL_areLoops_88 kL_31 ykX6_ofLoop rfl (q_oL_s hn (nIx (Nat.le_refl _) (by omega)) hI hD) rfl (Nat.le_of_ble_eq_true rfl) ⟨by decide, by decide, by decide, by decide⟩ (fun D hD => ?_)
      refine V_iconst (v := (-1)) dL_areLoops_91 (by decide) ?_
      refine V_icmp_ne dL_areLoops_92 (fun z => absurd z (fun z => z rfl)) (fun _ => ?_)
      refine V_iconst (v := 1) dL_areLoops_95 (by decide) ?_
      refine V_goto dL_areLoops_96 ?_
      refine V_istore_n dL_areLoops_100 (by decide) (by dsimp only [List.set] <;> rfl) rfl ?_
      refine V_iconst (v := 0) dL_areLoops_101 (by decide) ?_
      refine V_istore dL_areLoops_102 (by decide) (by dsimp only [List.set] <;> rfl) rfl ?_
      exact kA (ll n) 0 1 x9 x10 x11 x12 D hD (by omega) (fun _ => rfl) (fun z => absurd ((hAL 0).mpr (fun j hj => absurd hj (Nat.not_lt_zero j))) z)
  refine Ct.of (own := RL) (mn := "areLoops") (L0 := [some (.ref a), none, none, none, none, none, none, none, none, none, none, none, none]) (by decide +kernel) rfl rfl rfl (Nat.le_of_ble_eq_true rfl) rfl ?_
  refine V_aload_n dL_areLoops_0 rfl ?_
  refine V_iconst (v := 4) dL_areLoops_1 (by decide) ?_
  refine V_rq dL_areLoops_2 kL_20 ykX6_total rfl (q_tot4 hI hD) rfl (Nat.le_of_ble_eq_true rfl) ⟨by decide, by decide, by decide, by decide⟩ (fun D hD => ?_)
  refine V_istore_n dL_areLoops_5 (by decide) (by dsimp only [List.set] <;> rfl) rfl ?_
  refine V_iload_n dL_areLoops_6 rfl ?_
  refine V_if_lt dL_areLoops_7 (fun z => absurd z (fun z => absurd ((clt (by repeat (first | with_reducible rfl | with_reducible exact nlit | with_reducible apply nadd | with_reducible apply nmul | with_reducible apply nsub | with_reducible assumption | omega)) (by repeat (first | with_reducible rfl | with_reducible exact nlit | with_reducible apply nadd | with_reducible apply nmul | with_reducible apply nsub | with_reducible assumption | omega)) (by omega) (by omega)).mp z) (by omega))) (fun _ => ?_)
  refine V_iload_n dL_areLoops_10 rfl ?_
  refine V_bipush (v := 6) dL_areLoops_11 (by decide) ?_
  refine V_icmp_gt dL_areLoops_13 (fun z => absurd z (fun z => absurd ((clt (by repeat (first | with_reducible rfl | with_reducible exact nlit | with_reducible apply nadd | with_reducible apply nmul | with_reducible apply nsub | with_reducible assumption | omega)) (by repeat (first | with_reducible rfl | with_reducible exact nlit | with_reducible apply nadd | with_reducible apply nmul | with_reducible apply nsub | with_reducible assumption | omega)) (by omega) (by omega)).mp z) (by omega))) (fun _ => ?_)
  refine V_iconst (v := 1) dL_areLoops_16 (by decide) ?_
  refine V_goto dL_areLoops_17 ?_
  refine V_istore_n dL_areLoops_21 (by decide) (by dsimp only [List.set] <;> rfl) rfl ?_
  refine V_iconst (v := 0) dL_areLoops_22 (by decide) ?_
  refine V_istore_n dL_areLoops_23 (by decide) (by dsimp only [List.set] <;> rfl) rfl ?_
  exact kN lc 0 none none none none none none none none none D hD (by omega)
end LAW
