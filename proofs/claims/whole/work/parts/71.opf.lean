/-! One call of the law on both sides: the frame of it. -/
def Rx (G : GT) (a : Nat) (v : Int32) (P : CT → Prop) : Option Value → Hp → Prop := fun r h' => ∃ C', r = some (.int v) ∧ h' = B G a C' ∧ P C'
def JE (C : CT) : Prop := ∃ st n, JJ C st n
section OPF
variable {G : GT} {l : Launch} {y : MethodName} {cc : ByteArray} {mL : Nat} {ret : Option FieldType} {d sz a st : Nat} {av : List Value} {h : Hp} {v : Int32} {C C' : CT} {P : CT → Prop}
theorem Rx_w (hc : Ct G l y cc mL ret d 0 0 sz av h (Rw G a (.int v) C')) (hp : P C') : Ct G l y cc mL ret d 0 0 sz av h (Rx G a v P) := hc.weaken (fun r h' q => ⟨C', q.1, q.2, hp⟩)
theorem Rx_we {v' : Int32} (e : v' = v) (hc : Ct G l y cc mL ret d 0 0 sz av h (Rw G a (.int v') C')) (hp : P C') : Ct G l y cc mL ret d 0 0 sz av h (Rx G a v P) := by subst e; exact Rx_w hc hp
theorem Rx_s (hc : Ct G l y cc mL ret d 0 0 sz av h (Rs G a (.int v) C')) (hp : ∀ D, SC C' D → P D) : Ct G l y cc mL ret d 0 0 sz av h (Rx G a v P) := hc.weaken (fun r h' q => by
  obtain ⟨D, q1, q2, q3⟩ := q
  exact ⟨D, q1, q2, hp D q3⟩)
theorem Rx_se {v' : Int32} (e : v' = v) (hc : Ct G l y cc mL ret d 0 0 sz av h (Rs G a (.int v') C')) (hp : ∀ D, SC C' D → P D) : Ct G l y cc mL ret d 0 0 sz av h (Rx G a v P) := by subst e; exact Rx_s hc hp
theorem Rx_p {F : CT → CT} (hc : Ct G l y cc mL ret d 0 0 sz av h (Rp G a (.int v) C st F)) (hp : ∀ C1, Pu C st C1 → P (F C1)) : Ct G l y cc mL ret d 0 0 sz av h (Rx G a v P) := hc.weaken (fun r h' q => by
  obtain ⟨C1, q1, q2, q3⟩ := q
  exact ⟨F C1, q1, q2, hp C1 q3⟩)
end OPF
theorem ix_ex {x : Int32} {n : Nat} (h : isIx x n) : ∃ m, m < n ∧ x = nI m := ⟨x.toInt.toNat, by have := h.1; have := h.2; omega, nI_ex h.1⟩
theorem cl_ex {x : Int32} {n : Nat} (hn : n < 1000) (h : 0 ≤ x ∧ x ≤ nI n) : ∃ m, m ≤ n ∧ x = nI m := by
  obtain ⟨h1, h2⟩ := h
  rw [i_le] at h1 h2
  rw [nI_toInt (by omega)] at h2
  have h1' : 0 ≤ x.toInt := h1
  exact ⟨x.toInt.toNat, by omega, nI_ex h1'⟩
/-- all that an invariant says of the state, one by one -/
theorem stR_ex {C : CT} {z : Nat → Int32} (h : stR C 1 z) : ∃ hd tc op lc, hd < 30 ∧ C 2 0 = nI hd ∧ z 30 = nI hd ∧ (∀ j, j < 30 → z j = C 3 j) ∧ (∀ j, j < 4 → z (34 + j) = C 1 (1 + j)) ∧ tc ≤ 6 ∧ (op = 0 ∨ (op = 1 ∧ tc < 6)) ∧ C 4 0 = nI tc ∧ z 31 = nI tc ∧ C 1 0 = nI op ∧ z 32 = nI op ∧ lc ≤ 6 ∧ C 10 0 = nI lc ∧ z 33 = nI lc ∧ (∀ i, i < tc + op → ∃ n, n ≤ 12 ∧ (i < tc → 1 ≤ n) ∧ trR (bk C 1) z i n) ∧ (∀ i, i < lc → ∃ n t, 1 ≤ n ∧ n ≤ 12 ∧ 1 ≤ t ∧ t ≤ 99 ∧ lpR (bk C 1) z i n t) := by
  obtain ⟨⟨⟨hd, a1, a2, a3⟩, a4, a5⟩, ⟨tc, op, b1, b2, b3, b4, b5, b6, b7⟩, lc, c1, c2, c3, c4⟩ := h
  exact ⟨hd, tc, op, lc, a1, a2, a3, a4, a5, b1, b2, b3, b4, b5, b6, c1, c2, c3, b7, c4⟩
/-- a try's steps, as the class holds them -/
theorem trR_ex {C : CT} {z : Nat → Int32} {i n : Nat} (h : trR (bk C 1) z i n) : C 8 i = nI n ∧ z (38 + 25 * i) = nI n ∧ ∀ k, k < n → z (38 + 25 * i + 1 + 2 * k) = C 5 (i * 12 + k) ∧ z (38 + 25 * i + 2 + 2 * k) = C 6 (i * 12 + k) ∧ verbOK (C 5 (i * 12 + k)) := h
theorem lpR_ex {C : CT} {z : Nat → Int32} {i n t : Nat} (h : lpR (bk C 1) z i n t) : C 14 i = nI n ∧ z (213 + 38 * i) = nI n ∧ C 15 i = nI t ∧ z (214 + 38 * i) = nI t ∧ ∀ k, k < n → lvM z i k = C 11 (i * 12 + k) ∧ lnM z i k = C 12 (i * 12 + k) ∧ lsM z i k = C 13 (i * 12 + k) ∧ verbOK (C 11 (i * 12 + k)) := h
theorem RoR_mk {C : CT} {z : Nat → Int32} {hd : Nat} (h1 : hd < 30) (h2 : C 2 0 = nI hd) (h3 : z 30 = nI hd) (h4 : ∀ j, j < 30 → z j = C 3 j) (h5 : ∀ j, j < 4 → z (34 + j) = C 1 (1 + j)) : RoR (bk C 1) z := ⟨⟨hd, h1, h2, h3⟩, h4, h5⟩
theorem lt4 {P : Nat → Prop} (h0 : P 0) (h1 : P 1) (h2 : P 2) (h3 : P 3) : ∀ j, j < 4 → P j := by
  intro j hj
  match j, hj with
  | 0, _ => exact h0
  | 1, _ => exact h1
  | 2, _ => exact h2
  | 3, _ => exact h3
  | n + 4, h => exact absurd h (by omega)
theorem RoR_eq {C D : CT} {z z' : Nat → Int32} (h1 : ∀ j, j < 5 → 1 ≤ j → D 1 j = C 1 j) (h2 : D 2 = C 2) (h3 : D 3 = C 3) (hz : ∀ j, j < 31 → z' j = z j) (hz2 : ∀ j, 34 ≤ j → j < 38 → z' j = z j) (h : RoR (bk C 1) z) : RoR (bk D 1) z' :=
  RoR_cg (b := bk C 1) (show D 2 0 = C 2 0 by rw [h2]) (fun j _ => show D 3 j = C 3 j by rw [h3]) (fun j a1 a2 => h1 j a2 a1) hz hz2 h
theorem TrsR_eq {C D : CT} {z z' : Nat → Int32} {tc op : Nat} (h0 : D 1 0 = C 1 0) (h : ∀ i, 4 ≤ i → i < 9 → D i = C i) (hz : ∀ j, 31 ≤ j → j < 33 → z' j = z j) (hz2 : ∀ j, 38 ≤ j → j < 213 → z' j = z j) (hh : TrsR (bk C 1) z tc op) : TrsR (bk D 1) z' tc op :=
  TrsR_cg (b := bk C 1) (show D 4 0 = C 4 0 by rw [h 4 (by decide) (by decide)]) h0 (fun j _ => show D 5 j = C 5 j by rw [h 5 (by decide) (by decide)]) (fun j _ => show D 6 j = C 6 j by rw [h 6 (by decide) (by decide)]) (fun j _ => show D 8 j = C 8 j by rw [h 8 (by decide) (by decide)]) hz hz2 hh
theorem LpsR_eq {C D : CT} {z z' : Nat → Int32} {lc : Nat} (h : ∀ i, 10 ≤ i → i < 16 → D i = C i) (hz : z' 33 = z 33) (hz2 : ∀ j, 213 ≤ j → j < 441 → z' j = z j) (hh : LpsR (bk C 1) z lc) : LpsR (bk D 1) z' lc :=
  LpsR_cg (b := bk C 1) (show D 10 0 = C 10 0 by rw [h 10 (by decide) (by decide)]) (fun j _ => show D 11 j = C 11 j by rw [h 11 (by decide) (by decide)]) (fun j _ => show D 12 j = C 12 j by rw [h 12 (by decide) (by decide)]) (fun j _ => show D 13 j = C 13 j by rw [h 13 (by decide) (by decide)]) (fun j _ => show D 14 j = C 14 j by rw [h 14 (by decide) (by decide)]) (fun j _ => show D 15 j = C 15 j by rw [h 15 (by decide) (by decide)]) hz hz2 hh
/-- behind a push, the class's call F and the model's row z' -/
theorem JE_push {C C1 C' : CT} {z' : Nat → Int32} {st n : Nat} (hJ : JJ C st n) (hP : Pu C st C1) (hF : ∀ i, 16 ≤ i → i ≠ 93 → i < 95 → C' i = C1 i) (h93 : C' 93 = C1 93) (h0 : C' 0 = C1 0) (hge : ∀ i, 105 ≤ i → C' i = C i) (hz : stR C' 1 z') : JE (mset (mSave C' st) 106 z') :=
  ⟨svN st, n, JJ_push hJ hP (fun i a1 a2 a3 => hF i a1 a3 a2) (by rw [h93]) (by rw [h0]) hge hz⟩
theorem JE_SC {C D : CT} (h : SC C D) (hJ : JE C) : JE D := by
  obtain ⟨st, n, hJ⟩ := hJ
  exact ⟨st, n, JJ_eq hJ (EqJ_SC h)⟩
