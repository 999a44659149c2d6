/-! Text: what the items hold. -/
def itG (its : List (Nat × List TS)) (i : Nat) : Nat × List TS := its.getD i (0, [])
def ItP (W : CT) (its : List (Nat × List TS)) : Prop := ∀ i, i < its.length → W 100 i = nI (itG its i).1 ∧ W 99 i = nI (itG its i).2.length ∧ (itG its i).2.length ≤ 20 ∧ ∀ k, k < (itG its i).2.length → W 96 (i * 20 + k) = bvF (itG its i).2 k ∧ W 97 (i * 20 + k) = bnF (itG its i).2 k ∧ W 98 (i * 20 + k) = bsF (itG its i).2 k
theorem itG_app {its : List (Nat × List TS)} {y : Nat × List TS} {k : Nat} (h : k < its.length) : itG (its ++ [y]) k = itG its k := by
  unfold itG
  simp [List.getD, List.getElem?_append_left h]
theorem itG_end {its : List (Nat × List TS)} {y : Nat × List TS} : itG (its ++ [y]) its.length = y := by
  unfold itG
  simp [List.getD]
theorem ItP_cg {W W' : CT} {its : List (Nat × List TS)} (h : ItP W its) (e : ∀ i, 96 ≤ i → i ≤ 100 → W' i = W i) : ItP W' its := by
  intro i hi
  rw [e 100 (by decide) (by decide), e 99 (by decide) (by decide), e 98 (by decide) (by decide), e 97 (by decide) (by decide), e 96 (by decide) (by decide)]
  exact h i hi
theorem kiC_n {C : CT} {t q i : Nat} {y : Nat × List TS} (h : i < 93 ∨ i = 94 ∨ 100 < i) : kiC C t y q i = C i := by
  unfold kiC
  rw [mset_n (by omega), mset_n (by omega), bdC_n (by omega)]
theorem kiC_93 {C : CT} {t q : Nat} {y : Nat × List TS} : kiC C t y q 93 0 = C 93 0 ∧ kiC C t y q 93 1 = nI q := by
  unfold kiC
  rw [mset_n (by decide), mset_n (by decide), bdC_0, bdC_1]
  exact ⟨rfl, rfl⟩
theorem kiC_95 {C : CT} {t q : Nat} {y : Nat × List TS} : kiC C t y q 95 0 = nI (t + 1) := by
  unfold kiC
  rw [mset_s, pk_us]
theorem ItP_ki {W : CT} {its : List (Nat × List TS)} {y : Nat × List TS} {q : Nat} (h : ItP W its) (hy : y.2.length ≤ 20) : ItP (kiC W its.length y q) (its ++ [y]) := by
  have r100 : kiC W its.length y q 100 = upd (W 100) its.length (nI y.1) := by unfold kiC; rw [mset_n (by decide), mset_s]
  have r99 : kiC W its.length y q 99 = upd (W 99) its.length (nI y.2.length) := by
    unfold kiC bdC
    rw [mset_n (by decide), mset_n (by decide), aP_n (by decide), mset_s]
  have r98 : kiC W its.length y q 98 = fil (W 98) (its.length * 20) (bsF y.2) y.2.length := by
    unfold kiC bdC
    rw [mset_n (by decide), mset_n (by decide), aP_n (by decide), mset_n (by decide), mset_s]
  have r97 : kiC W its.length y q 97 = fil (W 97) (its.length * 20) (bnF y.2) y.2.length := by
    unfold kiC bdC
    rw [mset_n (by decide), mset_n (by decide), aP_n (by decide), mset_n (by decide), mset_n (by decide), mset_s]
  have r96 : kiC W its.length y q 96 = fil (W 96) (its.length * 20) (bvF y.2) y.2.length := by
    unfold kiC bdC
    rw [mset_n (by decide), mset_n (by decide), aP_n (by decide), mset_n (by decide), mset_n (by decide), mset_n (by decide), mset_s]
  intro i hi
  rw [r100, r99, r98, r97, r96]
  have hl : (its ++ [y]).length = its.length + 1 := by simp
  by_cases hi2 : i < its.length
  · rw [itG_app hi2, pk_un (by omega), pk_un (by omega)]
    obtain ⟨h1, h2, h3, h4⟩ := h i hi2
    refine ⟨h1, h2, h3, fun k hk => ?_⟩
    rw [fil_out (by omega), fil_out (by omega), fil_out (by omega)]
    exact h4 k hk
  · obtain rfl : i = its.length := by omega
    rw [itG_end, pk_us, pk_us]
    exact ⟨rfl, rfl, hy, fun k hk => ⟨fil_at hk, fil_at hk, fil_at hk⟩⟩
