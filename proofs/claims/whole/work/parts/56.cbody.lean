/-! Text: readBody. -/
theorem fil_cg {f v v' : Nat → Int32} {b k : Nat} (h : ∀ i, i < k → v i = v' i) : fil f b v k = fil f b v' k := by
  funext j
  unfold fil
  by_cases hj : b ≤ j ∧ j < b + k
  · rw [if_pos hj, if_pos hj, h _ (by omega)]
  · rw [if_neg hj, if_neg hj]
theorem bF_app {b : List TS} {y : TS} {k : Nat} (h : k < b.length) : (b ++ [y]).getD k (0, 0, 0) = b.getD k (0, 0, 0) := by
  simp [List.getD, List.getElem?_append_left h]
theorem bF_end {b : List TS} {y : TS} : (b ++ [y]).getD b.length (0, 0, 0) = y := by
  simp [List.getD]
/-- row t of the items under way: the steps of b; the place q -/
def bdC (C : CT) (t : Nat) (b : List TS) (q : Nat) : CT := aP (mset (mset (mset (mset C 96 (fil (C 96) (t * 20) (bvF b) b.length)) 97 (fil (C 97) (t * 20) (bnF b) b.length)) 98 (fil (C 98) (t * 20) (bsF b) b.length)) 99 (upd (C 99) t (nI b.length))) q
theorem bdC_n {C : CT} {t q i : Nat} {b : List TS} (h : i < 93 ∨ i = 94 ∨ i = 95 ∨ 99 < i) : bdC C t b q i = C i := by
  unfold bdC
  rw [aP_n (by omega), mset_n (by omega), mset_n (by omega), mset_n (by omega), mset_n (by omega)]
theorem bdC_0 {C : CT} {t q : Nat} {b : List TS} : bdC C t b q 93 0 = C 93 0 := by
  unfold bdC
  rw [aP_0, mset_n (by decide), mset_n (by decide), mset_n (by decide), mset_n (by decide)]
theorem bdC_1 {C : CT} {t q : Nat} {b : List TS} : bdC C t b q 93 1 = nI q := by unfold bdC; exact aP_1
theorem bdC_99 {C : CT} {t q : Nat} {b : List TS} : bdC C t b q 99 t = nI b.length := by
  unfold bdC
  rw [aP_n (by decide), mset_s, pk_us]
theorem bdC_aP {C : CT} {t q q' : Nat} {b : List TS} : aP (bdC C t b q) q' = bdC C t b q' := by unfold bdC; exact aP_aP
theorem bdC_nil {C : CT} {t q : Nat} (h1 : C 93 1 = nI q) (h : C 99 t = 0) : bdC C t [] q = C := by
  unfold bdC
  show aP (mset (mset (mset (mset C 96 (fil (C 96) (t * 20) (bvF []) 0)) 97 (fil (C 97) (t * 20) (bnF []) 0)) 98 (fil (C 98) (t * 20) (bsF []) 0)) 99 (upd (C 99) t 0)) q = C
  rw [fil_0, fil_0, fil_0, mset_eta, mset_eta, mset_eta, ← h, u_eta, mset_eta, aP_id h1]
theorem bdC_s {C : CT} {t q q' : Nat} {b : List TS} {y : TS} : rsC (bdC C t b q) t b.length (some y, q') = bdC C t (b ++ [y]) q' := by
  have e1 : fil (C 96) (t * 20) (bvF (b ++ [y])) (b ++ [y]).length = upd (fil (C 96) (t * 20) (bvF b) b.length) (t * 20 + b.length) (nI y.1) := by
    rw [List.length_append, List.length_singleton, ← fil_s, fil_cg (v := bvF (b ++ [y])) (v' := bvF b) (fun i hi => by unfold bvF; rw [bF_app hi])]
    congr 1
    unfold bvF
    rw [bF_end]
  have e2 : fil (C 97) (t * 20) (bnF (b ++ [y])) (b ++ [y]).length = upd (fil (C 97) (t * 20) (bnF b) b.length) (t * 20 + b.length) (nI y.2.1) := by
    rw [List.length_append, List.length_singleton, ← fil_s, fil_cg (v := bnF (b ++ [y])) (v' := bnF b) (fun i hi => by unfold bnF; rw [bF_app hi])]
    congr 1
    unfold bnF
    rw [bF_end]
  have e3 : fil (C 98) (t * 20) (bsF (b ++ [y])) (b ++ [y]).length = upd (fil (C 98) (t * 20) (bsF b) b.length) (t * 20 + b.length) y.2.2 := by
    rw [List.length_append, List.length_singleton, ← fil_s, fil_cg (v := bsF (b ++ [y])) (v' := bsF b) (fun i hi => by unfold bsF; rw [bF_app hi])]
    congr 1
    unfold bsF
    rw [bF_end]
  show apS (aP (bdC C t b q) q') 95 20 t b.length (nI y.1) (nI y.2.1) y.2.2 = _
  rw [bdC_aP]
  have r96 : bdC C t b q' 96 = fil (C 96) (t * 20) (bvF b) b.length := by unfold bdC; rw [aP_n (by decide), mset_n (by decide), mset_n (by decide), mset_n (by decide), mset_s]
  have r97 : bdC C t b q' 97 = fil (C 97) (t * 20) (bnF b) b.length := by unfold bdC; rw [aP_n (by decide), mset_n (by decide), mset_n (by decide), mset_s]
  have r98 : bdC C t b q' 98 = fil (C 98) (t * 20) (bsF b) b.length := by unfold bdC; rw [aP_n (by decide), mset_n (by decide), mset_s]
  have r99 : bdC C t b q' 99 = upd (C 99) t (nI b.length) := by unfold bdC; rw [aP_n (by decide), mset_s]
  have r93 : ∀ b', bdC C t b' q' 93 = upd (C 93) 1 (nI q') := fun b' => by unfold bdC aP; rw [mset_s, mset_n (by decide), mset_n (by decide), mset_n (by decide), mset_n (by decide)]
  have n96 : bdC C t (b ++ [y]) q' 96 = fil (C 96) (t * 20) (bvF (b ++ [y])) (b ++ [y]).length := by unfold bdC; rw [aP_n (by decide), mset_n (by decide), mset_n (by decide), mset_n (by decide), mset_s]
  have n97 : bdC C t (b ++ [y]) q' 97 = fil (C 97) (t * 20) (bnF (b ++ [y])) (b ++ [y]).length := by unfold bdC; rw [aP_n (by decide), mset_n (by decide), mset_n (by decide), mset_s]
  have n98 : bdC C t (b ++ [y]) q' 98 = fil (C 98) (t * 20) (bsF (b ++ [y])) (b ++ [y]).length := by unfold bdC; rw [aP_n (by decide), mset_n (by decide), mset_s]
  have n99 : bdC C t (b ++ [y]) q' 99 = upd (C 99) t (nI (b ++ [y]).length) := by unfold bdC; rw [aP_n (by decide), mset_s]
  funext i
  unfold apS
  by_cases h9 : i = 99
  · subst h9
    rw [mset_s, n99]
    show upd (bdC C t b q' 99) t (nI (b.length + 1)) = _
    rw [r99, uus, List.length_append]
    rfl
  rw [mset_n h9]
  by_cases h8 : i = 98
  · subst h8
    rw [mset_s, n98, e3]
    show upd (bdC C t b q' 98) _ _ = _
    rw [r98]
  rw [mset_n h8]
  by_cases h7 : i = 97
  · subst h7
    rw [mset_s, n97, e2]
    show upd (bdC C t b q' 97) _ _ = _
    rw [r97]
  rw [mset_n h7]
  by_cases h6 : i = 96
  · subst h6
    rw [mset_s, n96, e1]
    show upd (bdC C t b q' 96) _ _ = _
    rw [r96]
  rw [mset_n h6]
  by_cases h3 : i = 93
  · rw [h3, r93, r93]
  · rw [bdC_n (by omega), bdC_n (by omega)]
