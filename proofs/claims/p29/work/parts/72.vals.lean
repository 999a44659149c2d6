/-! Reads with plain answers. -/
section VAL
variable {G : GT} {l : Launch} {y : MethodName} {cc : ByteArray} {mL : Nat} {ret : Option FieldType} {d sz a st hd tc op lc : Nat} {tl ll lt : Nat → Nat} {C D : CT} {av : List Value} {h : Hp} {v v' : Int32}
theorem Rq_e (e : v = v') (hc : Ct G l y cc mL ret d 0 0 sz av h (Rq G a C v)) : Ct G l y cc mL ret d 0 0 sz av h (Rq G a C v') := by subst e; exact hc
theorem iv_tc (hI : Inv (bk C 1) hd tc op lc tl ll lt) : C 4 0 = nI tc ∧ tc ≤ 6 ∧ C 1 0 = nI op ∧ (op = 0 ∨ (op = 1 ∧ tc < 6)) := ⟨hI.2.1.1, hI.2.1.2.1, hI.2.1.2.2.1, hI.2.1.2.2.2.1⟩
theorem iv_lc (hI : Inv (bk C 1) hd tc op lc tl ll lt) : C 10 0 = nI lc ∧ lc ≤ 6 := ⟨hI.2.2.1, hI.2.2.2.1⟩
theorem iv_tr (hI : Inv (bk C 1) hd tc op lc tl ll lt) {i : Nat} (hi : i < tc + op) : C 8 i = nI (tl i) ∧ tl i ≤ 12 ∧ ∀ k, k < tl i → verbI (C 5 (i * 12 + k)) ∧ inR (C 5 (i * 12 + k)) (C 6 (i * 12 + k)) := hI.2.1.2.2.2.2.1 i hi
theorem iv_t1 (hI : Inv (bk C 1) hd tc op lc tl ll lt) {i : Nat} (hi : i < tc) : 1 ≤ tl i := hI.2.1.2.2.2.2.2 i hi
theorem iv_lp (hI : Inv (bk C 1) hd tc op lc tl ll lt) {i : Nat} (hi : i < lc) : C 14 i = nI (ll i) ∧ 1 ≤ ll i ∧ ll i ≤ 12 ∧ C 15 i = nI (lt i) ∧ 1 ≤ lt i ∧ lt i ≤ 99 ∧ ∀ k, k < ll i → verbI (C 11 (i * 12 + k)) ∧ inR (C 11 (i * 12 + k)) (C 12 (i * 12 + k)) ∧ strI (C 13 (i * 12 + k)) := hI.2.2.2.2 i hi
theorem iv_ro (hI : Inv (bk C 1) hd tc op lc tl ll lt) : C 2 0 = nI hd ∧ RO (C 3) hd := ⟨hI.1.1, hI.1.2.1, hI.1.2.2⟩
theorem q_tot0 (hI : Inv (bk C 1) hd tc op lc tl ll lt) (hD : SC C D) : Ct G l yX6_total cX6_total 2 (some .int) 4 0 0 sz [.ref a, .int 0] (B G a D) (Rq G a C (nI hd)) := Rq_e (show C 2 0 = nI hd from hI.1.1) (q_total (w := 0) (by decide) hI hD)
theorem q_tot1 (hI : Inv (bk C 1) hd tc op lc tl ll lt) (hD : SC C D) : Ct G l yX6_total cX6_total 2 (some .int) 4 0 0 sz [.ref a, .int 1] (B G a D) (Rq G a C (sumF (C 3) 30)) := q_total (w := 1) (by decide) hI hD
theorem q_tot2 (hI : Inv (bk C 1) hd tc op lc tl ll lt) (hD : SC C D) : Ct G l yX6_total cX6_total 2 (some .int) 4 0 0 sz [.ref a, .int 2] (B G a D) (Rq G a C (nI tc)) := Rq_e (iv_tc hI).1 (q_total (w := 2) (by decide) hI hD)
theorem q_tot3_0 (ho : op = 0) (hI : Inv (bk C 1) hd tc op lc tl ll lt) (hD : SC C D) : Ct G l yX6_total cX6_total 2 (some .int) 4 0 0 sz [.ref a, .int 3] (B G a D) (Rq G a C (-5)) := Rq_e (show (if C 1 0 = 1 then C 8 tc else -5) = -5 by rw [(iv_tc hI).2.2.1, ho, if_neg (by decide)]) (q_total (w := 3) (by decide) hI hD)
theorem q_tot3_1 (ho : op = 1) (hI : Inv (bk C 1) hd tc op lc tl ll lt) (hD : SC C D) : Ct G l yX6_total cX6_total 2 (some .int) 4 0 0 sz [.ref a, .int 3] (B G a D) (Rq G a C (nI (tl tc))) := Rq_e (show (if C 1 0 = 1 then C 8 tc else -5) = nI (tl tc) by rw [(iv_tc hI).2.2.1, if_pos (by rw [ho]; rfl), (iv_tr hI (by omega)).1]) (q_total (w := 3) (by decide) hI hD)
theorem q_tot4 (hI : Inv (bk C 1) hd tc op lc tl ll lt) (hD : SC C D) : Ct G l yX6_total cX6_total 2 (some .int) 4 0 0 sz [.ref a, .int 4] (B G a D) (Rq G a C (nI lc)) := Rq_e (iv_lc hI).1 (q_total (w := 4) (by decide) hI hD)
theorem q_tot5 (hI : Inv (bk C 1) hd tc op lc tl ll lt) (hD : SC C D) : Ct G l yX6_total cX6_total 2 (some .int) 4 0 0 sz [.ref a, .int 5] (B G a D) (Rq G a C (C 1 1)) := q_total (w := 5) (by decide) hI hD
theorem q_tot6 (hI : Inv (bk C 1) hd tc op lc tl ll lt) (hD : SC C D) : Ct G l yX6_total cX6_total 2 (some .int) 4 0 0 sz [.ref a, .int 6] (B G a D) (Rq G a C (C 1 2)) := q_total (w := 6) (by decide) hI hD
theorem q_tot7 (hI : Inv (bk C 1) hd tc op lc tl ll lt) (hD : SC C D) : Ct G l yX6_total cX6_total 2 (some .int) 4 0 0 sz [.ref a, .int 7] (B G a D) (Rq G a C (C 1 3)) := q_total (w := 7) (by decide) hI hD
theorem q_tot8 (hI : Inv (bk C 1) hd tc op lc tl ll lt) (hD : SC C D) : Ct G l yX6_total cX6_total 2 (some .int) 4 0 0 sz [.ref a, .int 8] (B G a D) (Rq G a C (C 1 4)) := q_total (w := 8) (by decide) hI hD
theorem q_tot9 (hI : Inv (bk C 1) hd tc op lc tl ll lt) (hD : SC C D) : Ct G l yX6_total cX6_total 2 (some .int) 4 0 0 sz [.ref a, .int 9] (B G a D) (Rq G a C (nI (rN (lkC C tl) tc))) := Rq_e (rows_rN tc) (q_total (w := 9) (by decide) hI hD)
theorem q_tot10 (hJ : JW C st) (hI : Inv (bk C 1) hd tc op lc tl ll lt) (hD : SC C D) : Ct G l yX6_total cX6_total 2 (some .int) 4 0 0 sz [.ref a, .int 10] (B G a D) (Rq G a C (nI st)) := Rq_e hJ.2.2.1 (q_total (w := 10) (by decide) hI hD)
theorem q_len0 {n : Nat} (hn : n < tc) (hI : Inv (bk C 1) hd tc op lc tl ll lt) (hD : SC C D) : Ct G l yX6_length cX6_length 3 (some .int) 1 0 0 sz [.ref a, .int (nI n), .int 0] (B G a D) (Rq G a C (nI (tl n))) := by
  have h6 := (iv_tc hI).2.1
  refine Rq_e ?_ (q_length (nI n) 0 hI hD)
  unfold leF
  rw [if_pos rfl, nTN (by omega), if_pos (isIx_nI hn (by omega)), (iv_tr hI (i := n) (by omega)).1]
theorem q_len0_o {x1 : Int32} (hn : ¬ isIx x1 tc) (hI : Inv (bk C 1) hd tc op lc tl ll lt) (hD : SC C D) : Ct G l yX6_length cX6_length 3 (some .int) 1 0 0 sz [.ref a, .int x1, .int 0] (B G a D) (Rq G a C (-1)) := by
  refine Rq_e ?_ (q_length x1 0 hI hD)
  unfold leF
  rw [if_pos rfl, if_neg hn]
theorem q_len1 {n : Nat} (hn : n < lc) (hI : Inv (bk C 1) hd tc op lc tl ll lt) (hD : SC C D) : Ct G l yX6_length cX6_length 3 (some .int) 1 0 0 sz [.ref a, .int (nI n), .int 1] (B G a D) (Rq G a C (nI (ll n))) := by
  have h6 := (iv_lc hI).2
  refine Rq_e ?_ (q_length (nI n) 1 hI hD)
  unfold leF
  rw [if_neg (by decide), if_pos rfl, nTN (by omega), if_pos (isIx_nI hn (by omega)), (iv_lp hI hn).1]
theorem q_len2 {n : Nat} (hn : n < lc) (hI : Inv (bk C 1) hd tc op lc tl ll lt) (hD : SC C D) : Ct G l yX6_length cX6_length 3 (some .int) 1 0 0 sz [.ref a, .int (nI n), .int 2] (B G a D) (Rq G a C (nI (lt n))) := by
  have h6 := (iv_lc hI).2
  refine Rq_e ?_ (q_length (nI n) 2 hI hD)
  unfold leF
  rw [if_neg (by decide), if_neg (by decide), if_pos rfl, nTN (by omega), if_pos (isIx_nI hn (by omega)), (iv_lp hI hn).2.2.2.1]
theorem q_len12_o {x1 x2 : Int32} (h2 : x2 = 1 ∨ x2 = 2) (hn : ¬ isIx x1 lc) (hI : Inv (bk C 1) hd tc op lc tl ll lt) (hD : SC C D) : Ct G l yX6_length cX6_length 3 (some .int) 1 0 0 sz [.ref a, .int x1, .int x2] (B G a D) (Rq G a C (-1)) := by
  refine Rq_e ?_ (q_length x1 x2 hI hD)
  unfold leF
  rcases h2 with z | z <;> subst z
  · rw [if_neg (by decide), if_pos rfl, if_neg hn]
  · rw [if_neg (by decide), if_neg (by decide), if_pos rfl, if_neg hn]
theorem q_len_r {x1 x2 : Int32} (h2 : ¬ x2 = 0 ∧ ¬ x2 = 1 ∧ ¬ x2 = 2) (hI : Inv (bk C 1) hd tc op lc tl ll lt) (hD : SC C D) : Ct G l yX6_length cX6_length 3 (some .int) 1 0 0 sz [.ref a, .int x1, .int x2] (B G a D) (Rq G a C (-2)) := by
  refine Rq_e ?_ (q_length x1 x2 hI hD)
  unfold leF
  rw [if_neg h2.1, if_neg h2.2.1, if_neg h2.2.2]
theorem q_oT0 {n k : Nat} (hn : n < tc + op) (hk : k < tl n) (hI : Inv (bk C 1) hd tc op lc tl ll lt) (hD : SC C D) : Ct G l yX6_ofTry cX6_ofTry 5 (some .int) 2 0 0 sz [.ref a, .int (nI n), .int (nI k), .int 0] (B G a D) (Rq G a C (C 5 (n * 12 + k))) := by
  have h6 := (iv_tc hI)
  have h12 := (iv_tr hI hn).2.1
  refine Rq_e ?_ (q_ofTry (nI n) (nI k) 0 hI hD)
  unfold oTF
  rw [nTN (n := n) (by omega), nTN (n := k) (by omega), if_pos (isIx_nI hn (by omega)), if_neg (fun z => z (isIx_nI hk (by omega))), if_pos rfl]
theorem q_oT1 {n k : Nat} (hn : n < tc + op) (hk : k < tl n) (hI : Inv (bk C 1) hd tc op lc tl ll lt) (hD : SC C D) : Ct G l yX6_ofTry cX6_ofTry 5 (some .int) 2 0 0 sz [.ref a, .int (nI n), .int (nI k), .int 1] (B G a D) (Rq G a C (C 6 (n * 12 + k))) := by
  have h6 := (iv_tc hI)
  have h12 := (iv_tr hI hn).2.1
  refine Rq_e ?_ (q_ofTry (nI n) (nI k) 1 hI hD)
  unfold oTF
  rw [nTN (n := n) (by omega), nTN (n := k) (by omega), if_pos (isIx_nI hn (by omega)), if_neg (fun z => z (isIx_nI hk (by omega))), if_neg (by decide), if_pos rfl]
theorem q_oT_s {n : Nat} {x2 x3 : Int32} (hn : n < tc + op) (hk : ¬ isIx x2 (tl n)) (hI : Inv (bk C 1) hd tc op lc tl ll lt) (hD : SC C D) : Ct G l yX6_ofTry cX6_ofTry 5 (some .int) 2 0 0 sz [.ref a, .int (nI n), .int x2, .int x3] (B G a D) (Rq G a C (-1)) := by
  have h6 := (iv_tc hI)
  refine Rq_e ?_ (q_ofTry (nI n) x2 x3 hI hD)
  unfold oTF
  rw [nTN (n := n) (by omega), if_pos (isIx_nI hn (by omega)), if_pos hk]
theorem q_oT_o {x1 x2 x3 : Int32} (hn : ¬ isIx x1 (tc + op)) (hI : Inv (bk C 1) hd tc op lc tl ll lt) (hD : SC C D) : Ct G l yX6_ofTry cX6_ofTry 5 (some .int) 2 0 0 sz [.ref a, .int x1, .int x2, .int x3] (B G a D) (Rq G a C (-1)) := by
  refine Rq_e ?_ (q_ofTry x1 x2 x3 hI hD)
  unfold oTF
  rw [if_neg hn]
theorem q_oT_r {n k : Nat} {x3 : Int32} (hn : n < tc + op) (hk : k < tl n) (h3 : ¬ x3 = 0 ∧ ¬ x3 = 1) (hI : Inv (bk C 1) hd tc op lc tl ll lt) (hD : SC C D) : Ct G l yX6_ofTry cX6_ofTry 5 (some .int) 2 0 0 sz [.ref a, .int (nI n), .int (nI k), .int x3] (B G a D) (Rq G a C (-2)) := by
  have h6 := (iv_tc hI)
  have h12 := (iv_tr hI hn).2.1
  refine Rq_e ?_ (q_ofTry (nI n) (nI k) x3 hI hD)
  unfold oTF
  rw [nTN (n := n) (by omega), nTN (n := k) (by omega), if_pos (isIx_nI hn (by omega)), if_neg (fun z => z (isIx_nI hk (by omega))), if_neg h3.1, if_neg h3.2]
theorem oLF_ex {n k : Nat} (hn : n < lc) (hk : k < ll n) (hI : Inv (bk C 1) hd tc op lc tl ll lt) (x3 : Int32) : oLF C lc ll (nI n) (nI k) x3 = (if x3 = 0 then C 11 (n * 12 + k) else if x3 = 1 then C 12 (n * 12 + k) else if x3 = 2 then C 13 (n * 12 + k) + 1000 else if x3 = 3 then C 12 (n * 12 + k) + (C 15 n - 1) * C 13 (n * 12 + k) + 10000 else -2) := by
  have h6 := (iv_lc hI)
  have h12 := (iv_lp hI hn).2.2.1
  unfold oLF
  rw [nTN (n := n) (by omega), nTN (n := k) (by omega), if_pos (isIx_nI hn (by omega)), if_pos (isIx_nI hk (by omega))]
theorem q_oL0 {n k : Nat} (hn : n < lc) (hk : k < ll n) (hI : Inv (bk C 1) hd tc op lc tl ll lt) (hD : SC C D) : Ct G l yX6_ofLoop cX6_ofLoop 5 (some .int) 3 0 0 sz [.ref a, .int (nI n), .int (nI k), .int 0] (B G a D) (Rq G a C (C 11 (n * 12 + k))) := Rq_e (by rw [oLF_ex hn hk hI, if_pos rfl]) (q_ofLoop (nI n) (nI k) 0 hI hD)
theorem q_oL1 {n k : Nat} (hn : n < lc) (hk : k < ll n) (hI : Inv (bk C 1) hd tc op lc tl ll lt) (hD : SC C D) : Ct G l yX6_ofLoop cX6_ofLoop 5 (some .int) 3 0 0 sz [.ref a, .int (nI n), .int (nI k), .int 1] (B G a D) (Rq G a C (C 12 (n * 12 + k))) := Rq_e (by rw [oLF_ex hn hk hI, if_neg (by decide), if_pos rfl]) (q_ofLoop (nI n) (nI k) 1 hI hD)
theorem q_oL2 {n k : Nat} (hn : n < lc) (hk : k < ll n) (hI : Inv (bk C 1) hd tc op lc tl ll lt) (hD : SC C D) : Ct G l yX6_ofLoop cX6_ofLoop 5 (some .int) 3 0 0 sz [.ref a, .int (nI n), .int (nI k), .int 2] (B G a D) (Rq G a C (C 13 (n * 12 + k) + 1000)) := Rq_e (by rw [oLF_ex hn hk hI, if_neg (by decide), if_neg (by decide), if_pos rfl]) (q_ofLoop (nI n) (nI k) 2 hI hD)
theorem q_oL3 {n k : Nat} (hn : n < lc) (hk : k < ll n) (hI : Inv (bk C 1) hd tc op lc tl ll lt) (hD : SC C D) : Ct G l yX6_ofLoop cX6_ofLoop 5 (some .int) 3 0 0 sz [.ref a, .int (nI n), .int (nI k), .int 3] (B G a D) (Rq G a C (C 12 (n * 12 + k) + nI (lt n - 1) * C 13 (n * 12 + k) + 10000)) := by
  obtain ⟨-, -, -, b4, b5, b6, -⟩ := iv_lp hI hn
  refine Rq_e ?_ (q_ofLoop (nI n) (nI k) 3 hI hD)
  rw [oLF_ex hn hk hI, if_neg (by decide), if_neg (by decide), if_neg (by decide), if_pos rfl, b4, nsub rfl (nlit (n := 1)) b5]
theorem q_oL_r {n k : Nat} {x3 : Int32} (hn : n < lc) (hk : k < ll n) (h3 : ¬ x3 = 0 ∧ ¬ x3 = 1 ∧ ¬ x3 = 2 ∧ ¬ x3 = 3) (hI : Inv (bk C 1) hd tc op lc tl ll lt) (hD : SC C D) : Ct G l yX6_ofLoop cX6_ofLoop 5 (some .int) 3 0 0 sz [.ref a, .int (nI n), .int (nI k), .int x3] (B G a D) (Rq G a C (-2)) := Rq_e (by rw [oLF_ex hn hk hI, if_neg h3.1, if_neg h3.2.1, if_neg h3.2.2.1, if_neg h3.2.2.2]) (q_ofLoop (nI n) (nI k) x3 hI hD)
theorem q_oL_s {n : Nat} {x2 x3 : Int32} (hn : n < lc) (hk : ¬ isIx x2 (ll n)) (hI : Inv (bk C 1) hd tc op lc tl ll lt) (hD : SC C D) : Ct G l yX6_ofLoop cX6_ofLoop 5 (some .int) 3 0 0 sz [.ref a, .int (nI n), .int x2, .int x3] (B G a D) (Rq G a C (-1)) := by
  have h6 := (iv_lc hI)
  refine Rq_e ?_ (q_ofLoop (nI n) x2 x3 hI hD)
  unfold oLF
  rw [nTN (n := n) (by omega), if_pos (isIx_nI hn (by omega)), if_neg hk]
theorem q_oL_o {x1 x2 x3 : Int32} (hn : ¬ isIx x1 lc) (hI : Inv (bk C 1) hd tc op lc tl ll lt) (hD : SC C D) : Ct G l yX6_ofLoop cX6_ofLoop 5 (some .int) 3 0 0 sz [.ref a, .int x1, .int x2, .int x3] (B G a D) (Rq G a C (-1)) := by
  refine Rq_e ?_ (q_ofLoop x1 x2 x3 hI hD)
  unfold oLF
  rw [if_neg hn]
theorem q_cl {j : Nat} (hj : j < 30) (hD : SC C D) : Ct G l yX6_cell cX6_cell 2 (some .int) 1 0 0 sz [.ref a, .int (nI j)] (B G a D) (Rq G a C (C 3 j)) := Rq_e (by rw [if_pos (isIx_nI hj (by omega)), nTN (by omega)]) (q_cell (nI j) hD)
theorem q_cl_o {x1 : Int32} (hj : ¬ isIx x1 30) (hD : SC C D) : Ct G l yX6_cell cX6_cell 2 (some .int) 1 0 0 sz [.ref a, .int x1] (B G a D) (Rq G a C (-1)) := Rq_e (by rw [if_neg hj]) (q_cell x1 hD)
theorem nIx {n m : Nat} (h : m ≤ n) (hn : n < 1000000) : ¬ isIx (nI n) m := fun z => by
  have := (isIx_n z).2
  rw [nTN (by omega)] at this
  omega
end VAL
/-- facts of how alike tries are -/
theorem al_self {C : CT} {n m : Nat} {w : Int32} : lcN (eqC C n n w) m m = m := lc_diag m (fun k _ => by unfold eqC; exact decide_eq_true ⟨rfl, Or.inr rfl⟩)
theorem al_sym {C : CT} {i j p q : Nat} {w : Int32} : lcN (eqC C j i w) q p = lcN (eqC C i j w) p q := lc_sym (fun p q => by
  unfold eqC
  rw [decide_eq_decide]
  exact ⟨fun z => ⟨z.1.symm, z.2.imp id Eq.symm⟩, fun z => ⟨z.1.symm, z.2.imp id Eq.symm⟩⟩) (p + q) p q (Nat.le_refl _)
theorem al_mono {C : CT} {i j p q : Nat} : lcN (eqC C i j 1) p q ≤ lcN (eqC C i j 0) p q := lc_mono (fun p q h => by
  unfold eqC at h ⊢
  exact decide_eq_true ⟨(of_decide_eq_true h).1, Or.inl rfl⟩) (p + q) p q (Nat.le_refl _)
theorem al_lik {C : CT} {i j m : Nat} (h : likC C i j m m) : lcN (eqC C i j 0) m m = m := lc_diag m (fun k hk => by
  unfold eqC
  exact decide_eq_true ⟨h.2 k hk, Or.inl rfl⟩)
theorem al_full {C : CT} {i j m : Nat} (h : lcN (eqC C i j 0) m m = m) : likC C i j m m := ⟨rfl, fun k hk => by
  have := lc_full m h k hk
  unfold eqC at this
  exact (of_decide_eq_true this).1⟩
theorem al_cn {C : CT} {i j m : Nat} (h : likC C i j m m) : cN (nT C i) (nT C j) m ≤ lcN (eqC C i j 1) m m := cN_lc m (fun k hk e => by
  unfold eqC
  exact decide_eq_true ⟨h.2 k hk, Or.inr e⟩)
/-- the best pair -/
theorem bp_ex {C : CT} {hd tc op lc : Nat} {tl ll lt : Nat → Nat} (hI : Inv (bk C 1) hd tc op lc tl ll lt) : (bpA C tl tc 0 = -5 ∧ bpA C tl tc 1 = -5 ∧ rN (lkC C tl) tc = tc) ∨ (∃ p q, p < q ∧ q < tc ∧ tl p = tl q ∧ likC C p q (tl p) (tl p) ∧ bpA C tl tc 0 = nI (10 * p + q) ∧ bpA C tl tc 1 = nI (cN (nT C p) (nT C q) (tl p)) ∧ rN (lkC C tl) tc ≠ tc) := by
  have h6 := (iv_tc hI).2.1
  have hcn : ∀ p q, p < q → q < tc → lkG C tl p q = true → ∃ c, c ≤ 12 ∧ cnC C tl p q = nI c := fun p q a b _ => ⟨cN (nT C p) (nT C q) (tl p), by
    have := cN_le (f := nT C p) (g := nT C q) (tl p)
    have := (iv_tr hI (i := p) (by omega)).2.1
    omega, cntEq_cN _⟩
  have hlk : ∀ p q, lkG C tl p q = lkC C tl q p := fun p q => by
    unfold lkG lkC
    rw [decide_eq_decide]
  unfold bpA bpC
  rcases bpO_end hcn with ⟨h1, h2⟩ | ⟨p, q, h1, h2, h3, h4⟩
  · rw [h1]
    refine Or.inl ⟨rfl, rfl, (rN_full tc).mpr (fun i hi m hm => ?_)⟩
    rw [← hlk]
    exact h2 m i hm hi
  · rw [h4]
    obtain ⟨z1, z2⟩ := of_decide_eq_true h3
    have e : (10 : Int32) * nI p + nI q = nI (10 * p + q) := nadd (nmul (nlit (n := 10)) rfl) rfl
    have n5 : ¬ nI (10 * p + q) = -5 := fun z => by
      have := congrArg Int32.toInt z
      rw [nI_toInt (by omega)] at this
      have z5 : (-5 : Int32).toInt = -5 := rfl
      omega
    refine Or.inr ⟨p, q, h1, h2, z1, ⟨rfl, z2⟩, ?_, ?_, fun z => ?_⟩
    · rw [if_pos rfl]
      exact e
    · rw [if_neg (by decide)]
      show (if 10 * nI p + nI q = -5 then _ else cnC C tl p q) = _
      rw [e, if_neg n5]
      exact cntEq_cN _
    · have := (rN_full tc).mp z q h2 p h1
      rw [← hlk, h3] at this
      cases this
