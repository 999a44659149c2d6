/-! The calls on both sides: step, play, generalise, fold. -/
theorem rowStep_2 {c : Nat → Int32} {hd m : Nat} {v : Int32} : (rowStep c hd v m).2 = if v = 0 then m else hd := by
  unfold rowStep
  by_cases h0 : v = 0
  · rw [if_pos h0, if_pos h0]
  rw [if_neg h0, if_neg h0]
  by_cases h1 : v = 1
  · rw [if_pos h1]
  rw [if_neg h1]
  by_cases h2 : v = 2
  · rw [if_pos h2]
  rw [if_neg h2]
  by_cases h3 : v = 3
  · rw [if_pos h3]
  rw [if_neg h3]
  by_cases h4 : v = 4
  · rw [if_pos h4]
  rw [if_neg h4]
theorem verbOK_of {v : Int32} (h : 0 ≤ v ∧ v ≤ 5) : verbOK v := by
  obtain ⟨m, h1, h2⟩ := cl_ex (n := 5) (by decide) h
  subst h2
  unfold verbOK
  rcases (show m = 0 ∨ m = 1 ∨ m = 2 ∨ m = 3 ∨ m = 4 ∨ m = 5 by omega) with z | z | z | z | z | z <;> subst z <;> decide
theorem zRec_lo {z : Nat → Int32} {tc len j : Nat} {v x0 : Int32} (h : j < 38 + 25 * tc) : zRec z tc len v x0 j = z j := by
  unfold zRec
  rw [pk_un (by omega), pk_un (by omega), pk_un (by omega)]
theorem zRec_hi {z : Nat → Int32} {tc len j : Nat} {v x0 : Int32} (hl : len < 12) (h : 38 + 25 * tc + 25 ≤ j) : zRec z tc len v x0 j = z j := by
  unfold zRec
  rw [pk_un (by omega), pk_un (by omega), pk_un (by omega)]
section CLS
variable {G : GT} {l : Launch} {sz a : Nat} {C : CT}
theorem obC_c {hd m : Nat} {v : Int32} : obC C hd v m 1 = upd (upd (C 1) 1 (C 1 1 + 1)) 2 (C 1 2 + (if pStep (C 3) hd v m then 0 else 1)) := by unfold obC; rw [mset_s]
/-- the row part behind a step -/
theorem RoR_step {C C1 C2 : CT} {z zz : Nat → Int32} {hd m : Nat} {v : Int32} (hhd : hd < 30) (hR : (rowStep (C 3) hd v m).2 < 30) (hm : v = 3 ∨ v = 4 → m < 30) (b4 : ∀ j, j < 30 → z j = C 3 j) (b3 : z 30 = nI hd) (b5 : ∀ j, j < 4 → z (34 + j) = C 1 (1 + j)) (hzz : ∀ j, j < 38 → zz j = z j) (lo : ∀ i, i < 4 → C1 i = C i) (h2 : ∀ i, i < 4 → C2 i = obC C1 hd v m i) :
    RoR (bk C2 1) (zStep zz hd v m) ∧ (∀ j, 30 < j → j ≠ 34 → j ≠ 35 → zStep zz hd v m j = zz j) ∧ (∀ j, j < 30 → zStep zz hd v m j = (rowStep (C 3) hd v m).1 j) ∧ (pStep zz hd v m ↔ pStep (C 3) hd v m) := by
  have e : zz = zOf zz (C 3) hd 0 0 := (zOf_0 (fun j hj => by rw [hzz j (by omega), b4 j hj]) (by rw [hzz 30 (by decide), b3])).symm
  have e2 := zStep_zOf (z0 := zz) (c := C 3) (hd := hd) (m := m) (v := v) (dn := 0) (fl := 0) hhd hm
  rw [← e] at e2
  rw [e2]
  have hp : pStep zz hd v m ↔ pStep (C 3) hd v m := by
    unfold pStep
    rw [hzz hd (by omega), b4 hd hhd]
  refine ⟨RoR_mk hR ?_ zOf_30 (fun j hj => ?_) (lt4 ?_ ?_ ?_ ?_), fun j a1 a2 a3 => zOf_n a1 a2 a3, fun j hj => zOf_c hj, hp⟩
  · rw [h2 2 (by decide), obC_2, pk_us, lo 3 (by decide)]
  · rw [h2 3 (by decide), obC_3, lo 3 (by decide), zOf_c hj]
  · rw [h2 1 (by decide), obC_c, lo 1 (by decide)]
    show zOf zz _ _ _ _ 34 = upd (upd (C 1) 1 _) 2 _ 1
    rw [zOf_34, pk_un (by decide), pk_us, hzz 34 (by decide), Int32.zero_add]
    exact congrArg (· + 1) (b5 0 (by decide))
  · rw [h2 1 (by decide), obC_c, lo 1 (by decide), lo 3 (by decide)]
    show zOf zz _ _ _ _ 35 = upd (upd (C 1) 1 _) 2 _ 2
    rw [zOf_35, pk_us, hzz 35 (by decide), Int32.zero_add]
    exact congrArg (· + _) (b5 1 (by decide))
  · rw [h2 1 (by decide), obC_c, lo 1 (by decide)]
    show zOf zz _ _ _ _ 36 = upd (upd (C 1) 1 _) 2 _ 3
    rw [zOf_n (by decide) (by decide) (by decide), pk_un (by decide), pk_un (by decide), hzz 36 (by decide)]
    exact b5 2 (by decide)
  · rw [h2 1 (by decide), obC_c, lo 1 (by decide)]
    show zOf zz _ _ _ _ 37 = upd (upd (C 1) 1 _) 2 _ 4
    rw [zOf_n (by decide) (by decide) (by decide), pk_un (by decide), pk_un (by decide), hzz 37 (by decide)]
    exact b5 3 (by decide)
set_option maxHeartbeats 4000000 in
theorem op_step (x1 x2 : Int32) (hJ : JE C) : ∃ v : Int32, Ct G l yX6_step cX6_step 4 (some .int) 5 0 0 sz [.ref a, .int x1, .int x2] (B G a C) (Rx G a v (fun C' => Ct G l yX7_step cX7_step 4 (some .int) 2 0 0 sz [.ref (a + 105), .int x1, .int x2] (B G a C') (Rx G a v JE))) := by
  obtain ⟨st, n0, hJ⟩ := hJ
  obtain ⟨a1, a2, a3, a4, a5, -⟩ := id hJ
  obtain ⟨hd, tc, op, lc, b1, b2, b3, b4, b5, b6, b7, b8, b9, c1, c2, c3, c4, c5, c6, c7⟩ := stR_ex a5
  obtain ⟨len, hlen, htr⟩ : ∃ len, len ≤ 12 ∧ (op = 1 → trR (bk C 1) (C 106) tc len) := by
    rcases b7 with b7 | ⟨b7, b7'⟩
    · exact ⟨0, by decide, fun z => by omega⟩
    · obtain ⟨n, n1, -, n3⟩ := c6 tc (by omega)
      exact ⟨n, n1, fun _ => n3⟩
  have op1 : C 106 32 = 1 ↔ op = 1 := by
    rw [c2]
    exact ceq rfl nlit (by omega) (by decide)
  have op2 : C 1 0 = 1 ↔ op = 1 := by
    rw [c1]
    exact ceq rfl nlit (by omega) (by decide)
  have hop : C 106 32 = 1 → tc < 6 ∧ C 106 (38 + 25 * tc) = nI len ∧ len ≤ 12 := fun z => ⟨by have := op1.mp z; omega, (trR_ex (htr (op1.mp z))).2.1, hlen⟩
  have hm := fun (D : CT) (h6 : D 106 = C 106) (h5 : D 105 = C 105) => tX7_step (G := G) (l := l) (sz := sz) (a := a) (C := D) (st := st) (tc := tc) (len := len) (hd := hd) x1 x2 a1 (by rw [h5]; exact a4) (by rw [h6]; exact b3) b1 (by rw [h6]; exact b9) (by rw [h6]; exact hop)
  by_cases hv : 0 ≤ x1 ∧ x1 ≤ 5
  · by_cases hx : inR x1 x2
    · by_cases hf : C 106 32 = 1 ∧ len = 12
      · obtain ⟨f1, f2⟩ := hf
        have o1 := op1.mp f1
        obtain ⟨t1, t2, -⟩ := trR_ex (htr o1)
        refine ⟨-3, Rx_w (tX6_step_f x1 x2 hv hx (op2.mpr o1) b8 (by omega) t1 (by omega) (by omega)) ?_⟩
        have m1 := hm C rfl rfl
        unfold mStepA mStepC at m1
        rw [if_neg (fun z => z hv), if_neg (fun z => z hx), if_pos ⟨f1, f2⟩, if_neg (show ¬ ¬ (0 ≤ x1 ∧ x1 ≤ 5) from fun z => z hv), if_neg (show ¬ ¬ inR x1 x2 from fun z => z hx), if_pos ⟨f1, f2⟩] at m1
        exact Rx_w m1 ⟨st, n0, hJ⟩
      · obtain ⟨e1, e2, e3⟩ := inR_nat hx
        have hR := rowStep_hd (c := C 3) b1 hx
        generalize hmm : x2.toInt.toNat = m at e1 e2 e3 hR
        subst e1
        have hm34 : x1 = 3 ∨ x1 = 4 → m < 30 := fun z => e3 (z.elim (fun w => Or.inr (Or.inl w)) (fun w => Or.inr (Or.inr w)))
        have hl12 : op = 1 → len < 12 := fun z => by
          have : len ≠ 12 := fun q => hf ⟨op1.mpr z, q⟩
          omega
        refine ⟨if pStep (C 3) hd x1 m then (rowStep (C 3) hd x1 m).1 (rowStep (C 3) hd x1 m).2 else 100, Rx_p (tX6_step (tc := tc) (len := len) x1 hv e2 hx (stR_op a5) (fun z => ⟨by have := op2.mp z; omega, (trR_ex (htr (op2.mp z))).1, hl12 (op2.mp z)⟩) b8 b2 b1 a2 a1 a3) (fun C1 hP => ?_)⟩
        have hP1 := hP.1
        have lo : ∀ i, i < 16 → C1 i = C i := fun i hi => hP1 i (Or.inl hi)
        have hi : ∀ i, 78 ≤ i → C1 i = C i := fun i hi => hP1 i (Or.inr hi)
        obtain ⟨C2, hC2⟩ : ∃ C2, C2 = stC C1 tc len hd x1 m := ⟨_, rfl⟩
        obtain ⟨zz, hzz⟩ : ∃ zz, zz = zStp (C 106) tc len x1 (nI m) := ⟨_, rfl⟩
        rw [← hC2]
        have on0 : ∀ i, (i < 4 ∨ 9 ≤ i) → C2 i = obC C1 hd x1 m i := by
          intro i h1
          rw [hC2]
          unfold stC
          split
          · exact apS_n (by omega) (by omega) (by omega) (by omega)
          · rfl
        have on : ∀ i, (i < 1 ∨ 9 ≤ i) → C2 i = C1 i := fun i h1 => by rw [on0 i (by omega), obC_n (by omega) (by omega) (by omega)]
        have z38 : ∀ j, j < 38 → zz j = C 106 j := by
          intro j hj
          rw [hzz]
          unfold zStp
          split
          · exact zRec_lo (by omega)
          · rfl
        obtain ⟨r1, r2, r3, r4⟩ := RoR_step (C := C) (C1 := C1) (C2 := C2) (z := C 106) (zz := zz) b1 hR hm34 b4 b3 b5 z38 (fun i h => lo i (by omega)) (fun i h => on0 i (by omega))
        have e106 : C2 106 = C 106 := by rw [on 106 (by decide), hi 106 (by decide)]
        have e105 : C2 105 = C 105 := by rw [on 105 (by decide), hi 105 (by decide)]
        have m1 := hm C2 e106 e105
        unfold mStepA mStepC at m1
        rw [if_neg (fun z => z hv), if_neg (fun z => z hx), e106, if_neg hf, if_neg (show ¬ ¬ (0 ≤ x1 ∧ x1 ≤ 5) from fun z => z hv), if_neg (show ¬ ¬ inR x1 (nI m) from fun z => z hx), if_neg hf, hmm, ← hzz] at m1
        refine Rx_we ?_ m1 (JE_push hJ hP (fun i q1 q2 q3 => on i (by omega)) (on 93 (by decide)) (on 0 (by decide)) (fun i hi2 => by rw [on i (by omega), hi i (by omega)]) ⟨r1, ⟨tc, op, b6, b7, ?_, ?_, ?_, ?_, fun i hi => ?_⟩, lc, ?_⟩)
        · rw [← rowStep_2 (c := C 3) (v := x1) (m := m) (hd := hd), r3 _ hR]
          by_cases hp : pStep (C 3) hd x1 m
          · rw [if_pos hp, if_pos (r4.mpr hp)]
          · rw [if_neg hp, if_neg (fun q => hp (r4.mp q))]
        · show C2 4 0 = nI tc
          rw [hC2]
          unfold stC
          split
          · rw [apS_n (by decide) (by decide) (by decide) (by decide), obC_n (by decide) (by decide) (by decide), lo 4 (by decide), b8]
          · rw [obC_n (by decide) (by decide) (by decide), lo 4 (by decide), b8]
        · rw [r2 31 (by decide) (by decide) (by decide), z38 31 (by decide), b9]
        · show C2 1 0 = nI op
          rw [on0 1 (by decide), obC_1, lo 1 (by decide), c1]
        · rw [r2 32 (by decide) (by decide) (by decide), z38 32 (by decide), c2]
        · by_cases ho : op = 1
          · have hC2' : C2 = apS (obC C1 hd x1 m) 4 12 tc len x1 (nI m) 0 := by
              rw [hC2]
              unfold stC
              rw [if_pos ⟨by rw [lo 1 (by decide)]; exact op2.mpr ho, hl12 ho⟩]
            have hzz' : zz = zRec (C 106) tc len x1 (nI m) := by
              rw [hzz]
              unfold zStp
              rw [if_pos (op1.mpr ho)]
            have o5 : C2 5 = upd (C 5) (tc * 12 + len) x1 := by
              rw [hC2']
              unfold apS
              rw [mset_n (by decide), mset_n (by decide), mset_n (by decide), mset_s, obC_n (by decide) (by decide) (by decide), lo _ (by decide)]
            have o6 : C2 6 = upd (C 6) (tc * 12 + len) (nI m) := by
              rw [hC2']
              unfold apS
              rw [mset_n (by decide), mset_n (by decide), mset_s, obC_n (by decide) (by decide) (by decide), lo _ (by decide)]
            have o8 : C2 8 = upd (C 8) tc (nI (len + 1)) := by
              rw [hC2']
              unfold apS
              rw [mset_s, obC_n (by decide) (by decide) (by decide), lo _ (by decide)]
            have hl := hl12 ho
            by_cases hit : i = tc
            · subst hit
              obtain ⟨t1, t2, t3⟩ := trR_ex (htr ho)
              refine ⟨len + 1, by omega, fun _ => by omega, ?_, ?_, fun k hk => ?_⟩
              · show C2 8 i = nI (len + 1)
                rw [o8, pk_us]
              · rw [r2 _ (by omega) (by omega) (by omega), hzz']
                unfold zRec
                rw [pk_us]
              · show _ = C2 5 (i * 12 + k) ∧ _ = C2 6 (i * 12 + k) ∧ verbOK (C2 5 (i * 12 + k))
                rw [r2 _ (by omega) (by omega) (by omega), r2 _ (by omega) (by omega) (by omega), hzz', o5, o6]
                unfold zRec
                by_cases hkl : k = len
                · subst hkl
                  rw [pk_un (by omega), pk_un (by omega), pk_us, pk_us, pk_un (by omega), pk_us, pk_us]
                  exact ⟨rfl, rfl, verbOK_of hv⟩
                · rw [pk_un (by omega), pk_un (by omega), pk_un (by omega), pk_un (by omega), pk_un (by omega), pk_un (by omega), pk_un (by omega), pk_un (by omega)]
                  exact t3 k (by omega)
            · obtain ⟨q, m1, m2, m3⟩ := c6 i hi
              refine ⟨q, m1, m2, trR_cg m1 ?_ (fun k hk => ?_) (fun k hk => ?_) (fun j hj => ?_) m3⟩
              · show C2 8 i = C 8 i
                rw [o8, pk_un hit]
              · show C2 5 _ = C 5 _
                rw [o5, pk_un (by omega)]
              · show C2 6 _ = C 6 _
                rw [o6, pk_un (by omega)]
              · rw [r2 _ (by omega) (by omega) (by omega), hzz']
                exact zRec_lo (by omega)
          · have hC2' : C2 = obC C1 hd x1 m := by
              rw [hC2]
              unfold stC
              rw [if_neg (fun z => ho (op2.mp (by rw [← lo 1 (by decide)]; exact z.1)))]
            have hzz' : zz = C 106 := by
              rw [hzz]
              unfold zStp
              rw [if_neg (fun z => ho (op1.mp z))]
            obtain ⟨q, m1, m2, m3⟩ := c6 i hi
            refine ⟨q, m1, m2, trR_cg m1 ?_ (fun k hk => ?_) (fun k hk => ?_) (fun j hj => ?_) m3⟩
            · show C2 8 i = C 8 i
              rw [hC2', obC_n (by decide) (by decide) (by decide), lo 8 (by decide)]
            · show C2 5 _ = C 5 _
              rw [hC2', obC_n (by decide) (by decide) (by decide), lo 5 (by decide)]
            · show C2 6 _ = C 6 _
              rw [hC2', obC_n (by decide) (by decide) (by decide), lo 6 (by decide)]
            · rw [r2 _ (by omega) (by omega) (by omega), hzz']
        · refine LpsR_eq (fun i q1 q2 => by rw [on i (by omega), lo i (by omega)]) ?_ (fun j q1 q2 => ?_) ⟨c3, c4, c5, c7⟩
          · rw [r2 33 (by decide) (by decide) (by decide), z38 33 (by decide)]
          · rw [r2 _ (by omega) (by omega) (by omega), hzz]
            unfold zStp
            split
            · rename_i ho
              exact zRec_hi (hl12 (op1.mp ho)) (by have := op1.mp ho; omega)
            · rfl
    · refine ⟨-2, Rx_w (tX6_step_r x1 x2 hv hx) ?_⟩
      have m1 := hm C rfl rfl
      unfold mStepA mStepC at m1
      rw [if_neg (fun z => z hv), if_pos hx, if_neg (show ¬ ¬ (0 ≤ x1 ∧ x1 ≤ 5) from fun z => z hv), if_pos hx] at m1
      exact Rx_w m1 ⟨st, n0, hJ⟩
  · refine ⟨-1, Rx_w (tX6_step_v x1 x2 hv) ?_⟩
    have m1 := hm C rfl rfl
    unfold mStepA mStepC at m1
    rw [if_pos hv, if_pos hv] at m1
    exact Rx_w m1 ⟨st, n0, hJ⟩
end CLS
