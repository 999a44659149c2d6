/-! What holds of a state (a block of 15 cells), of the history, of the snapshot; worlds alike but for scratch. -/
abbrev Bk : Type := Nat → Nat → Int32
def bk (C : CT) (s : Nat) : Bk := fun i j => C (s + i) j
abbrev verbI (v : Int32) : Prop := 0 ≤ v ∧ v ≤ 5
abbrev strI (t : Int32) : Prop := -99 ≤ t.toInt ∧ t.toInt ≤ 99
def TrI (b : Bk) (i n : Nat) : Prop := b 7 i = nI n ∧ n ≤ 12 ∧ ∀ k, k < n → verbI (b 4 (i * 12 + k)) ∧ inR (b 4 (i * 12 + k)) (b 5 (i * 12 + k))
def LpI (b : Bk) (i n t : Nat) : Prop := b 13 i = nI n ∧ 1 ≤ n ∧ n ≤ 12 ∧ b 14 i = nI t ∧ 1 ≤ t ∧ t ≤ 99 ∧ ∀ k, k < n → verbI (b 10 (i * 12 + k)) ∧ inR (b 10 (i * 12 + k)) (b 11 (i * 12 + k)) ∧ strI (b 12 (i * 12 + k))
/-- hand, number of tries, open, number of loops, lengths of tries and loops, turns -/
def Inv (b : Bk) (hd tc op lc : Nat) (tl ll lt : Nat → Nat) : Prop :=
  (b 1 0 = nI hd ∧ hd < 30 ∧ ∀ j, j < 30 → ∃ x, x < 100 ∧ b 2 j = nI x) ∧ (b 3 0 = nI tc ∧ tc ≤ 6 ∧ b 0 0 = nI op ∧ (op = 0 ∨ (op = 1 ∧ tc < 6)) ∧ (∀ i, i < tc + op → TrI b i (tl i)) ∧ ∀ i, i < tc → 1 ≤ tl i) ∧ (b 9 0 = nI lc ∧ lc ≤ 6 ∧ ∀ i, i < lc → LpI b i (ll i) (lt i))
def IB (b : Bk) : Prop := ∃ hd tc op lc tl ll lt, Inv b hd tc op lc tl ll lt
/-- alike in all that a block holds -/
def BE (b b' : Bk) : Prop := ∀ i, i < 15 → ∀ j, j < lnB i → b' i j = b i j
theorem TrI_cg {b b' : Bk} {i n : Nat} (hi : i < 6) (h : BE b b') (hh : TrI b i n) : TrI b' i n := by
  obtain ⟨h1, h2, h3⟩ := hh
  refine ⟨by rw [h 7 (by decide) i hi, h1], h2, fun k hk => ?_⟩
  have hl : i * 12 + k < 72 := by omega
  rw [h 4 (by decide) _ hl, h 5 (by decide) _ hl]
  exact h3 k hk
theorem LpI_cg {b b' : Bk} {i n t : Nat} (hi : i < 6) (h : BE b b') (hh : LpI b i n t) : LpI b' i n t := by
  obtain ⟨h1, h2, h3, h4, h5, h6, h7⟩ := hh
  refine ⟨by rw [h 13 (by decide) i hi, h1], h2, h3, by rw [h 14 (by decide) i hi, h4], h5, h6, fun k hk => ?_⟩
  have hl : i * 12 + k < 72 := by omega
  rw [h 10 (by decide) _ hl, h 11 (by decide) _ hl, h 12 (by decide) _ hl]
  exact h7 k hk
theorem Inv_cg {b b' : Bk} {hd tc op lc : Nat} {tl ll lt : Nat → Nat} (h : BE b b') (hh : Inv b hd tc op lc tl ll lt) : Inv b' hd tc op lc tl ll lt := by
  obtain ⟨⟨a1, a2, a3⟩, ⟨b1, b2, b3, b4, b5, b6⟩, c1, c2, c3⟩ := hh
  refine ⟨⟨by rw [h 1 (by decide) 0 (by decide), a1], a2, fun j hj => by rw [h 2 (by decide) j hj]; exact a3 j hj⟩, ⟨by rw [h 3 (by decide) 0 (by decide), b1], b2, by rw [h 0 (by decide) 0 (by decide), b3], b4, fun i hi => TrI_cg (by omega) h (b5 i hi), b6⟩, by rw [h 9 (by decide) 0 (by decide), c1], c2, fun i hi => LpI_cg (by omega) h (c3 i hi)⟩
theorem IB_cg {b b' : Bk} (h : BE b b') (hh : IB b) : IB b' := by
  obtain ⟨hd, tc, op, lc, tl, ll, lt, hh⟩ := hh
  exact ⟨hd, tc, op, lc, tl, ll, lt, Inv_cg h hh⟩
theorem BE.rf {b : Bk} : BE b b := fun _ _ _ _ => rfl
theorem BE.sy {b b' : Bk} (h : BE b b') : BE b' b := fun i hi j hj => (h i hi j hj).symm
theorem BE.tr {b b' b'' : Bk} (h : BE b b') (h1 : BE b' b'') : BE b b'' := fun i hi j hj => (h1 i hi j hj).trans (h i hi j hj)
/-- the world: st states in the history -/
def JW (C : CT) (st : Nat) : Prop := st ≤ 4 ∧ HiK C ∧ C 16 0 = nI st ∧ (∀ i, i < st → IB (bk C (hB C i))) ∧ (C 0 0 = 0 ∨ (C 0 0 = 1 ∧ IB (bk C 78))) ∧ C 93 0 = 0 ∧ chOK C
theorem SC.lo {C D : CT} (h : SC C D) {i : Nat} (hi : i < 93) : D i = C i := h.2 i (by
  unfold scr
  simp
  omega)
theorem SC.bk {C D : CT} (h : SC C D) {s : Nat} (hs : s + 15 ≤ 93) : BE (bk C s) (bk D s) := fun i hi j _ => by
  show D (s + i) j = C (s + i) j
  rw [h.lo (by omega)]
theorem Inv_SC {C D : CT} {hd tc op lc : Nat} {tl ll lt : Nat → Nat} (h : SC C D) (hh : Inv (bk C 1) hd tc op lc tl ll lt) : Inv (bk D 1) hd tc op lc tl ll lt := Inv_cg (h.bk (by decide)) hh
theorem hB_lt {C : CT} (h : HiK C) {i : Nat} (hi : i < 4) : 18 ≤ hB C i ∧ hB C i + 15 ≤ 78 := by
  have := h.1 i hi
  unfold hB
  omega
theorem HiK_eq {C D : CT} (h : HiK C) (e : D 17 = C 17) : HiK D := by
  have : ∀ i, hK D i = hK C i := fun i => by unfold hK; rw [e]
  exact ⟨fun i hi => by rw [this]; exact h.1 i hi, fun i j hi hj z => by rw [this, this] at z; exact h.2 i j hi hj z⟩
theorem hB_eq {C D : CT} (e : D 17 = C 17) (i : Nat) : hB D i = hB C i := by unfold hB hK; rw [e]
theorem JW_SC {C D : CT} {st : Nat} (h : SC C D) (hh : JW C st) : JW D st := by
  obtain ⟨a1, a2, a3, a4, a5, a6, a7⟩ := hh
  have e17 := h.lo (i := 17) (by decide)
  refine ⟨a1, HiK_eq a2 e17, by rw [h.lo (by decide), a3], fun i hi => ?_, ?_, by rw [h.1, a6], fun j => ?_⟩
  · have := hB_lt a2 (i := i) (by omega)
    rw [hB_eq e17]
    exact IB_cg (h.bk (by omega)) (a4 i hi)
  · rw [h.lo (i := 0) (by decide)]
    rcases a5 with a5 | ⟨a5, a5'⟩
    · exact Or.inl a5
    · exact Or.inr ⟨a5, IB_cg (h.bk (by decide)) a5'⟩
  · rw [h.2 94 rfl]
    exact a7 j
/-- what a call that keeps a state in the history leaves of the rest -/
def Psh (C : CT) (st : Nat) (C' : CT) : Prop := C' 16 0 = nI (svN st) ∧ HiK C' ∧ BE (bk C 1) (bk C' (hB C' (svN st - 1))) ∧ (∀ i, i < svN st - 1 → BE (bk C (hB C (i + (if st = 4 then 1 else 0)))) (bk C' (hB C' i))) ∧ (∀ i, 78 ≤ i → i < 93 → C' i = C i) ∧ C' 0 0 = C 0 0 ∧ C' 93 0 = C 93 0 ∧ C' 94 = C 94
theorem svN_le {st : Nat} (hst : st ≤ 4) : svN st ≤ 4 ∧ 1 ≤ svN st := by unfold svN; split <;> omega
theorem JW_push {C C' : CT} {st : Nat} (h : JW C st) (hI : IB (bk C 1)) (hP : Psh C st C') : JW C' (svN st) := by
  obtain ⟨a1, a2, a3, a4, a5, a6, a7⟩ := h
  obtain ⟨p1, p2, p3, p4, p5, p6, p7, p8⟩ := hP
  have hs := svN_le a1
  refine ⟨hs.1, p2, p1, fun i hi => ?_, ?_, by rw [p7, a6], fun j => by rw [p8]; exact a7 j⟩
  · by_cases hl : i = svN st - 1
    · subst hl
      exact IB_cg p3 hI
    · refine IB_cg (p4 i (by omega)) (a4 _ ?_)
      unfold svN at hi hl
      split at hi <;> split at hl <;> split <;> omega
  · rw [p6]
    rcases a5 with a5 | ⟨a5, a5'⟩
    · exact Or.inl a5
    · exact Or.inr ⟨a5, IB_cg (fun i hi j _ => by show C' (78 + i) j = C (78 + i) j; rw [p5 _ (by omega) (by omega)]) a5'⟩
theorem Psh_SC {C C' D : CT} {st : Nat} (hP : Psh C st C') (hst : st ≤ 4) (h : SC C' D) : Psh C st D := by
  obtain ⟨p1, p2, p3, p4, p5, p6, p7, p8⟩ := hP
  have e17 := h.lo (i := 17) (by decide)
  have hs := svN_le hst
  refine ⟨by rw [h.lo (by decide), p1], HiK_eq p2 e17, ?_, fun i hi => ?_, fun i h1 h2 => by rw [h.lo h2, p5 i h1 h2], by rw [h.lo (by decide), p6], by rw [h.1, p7], by rw [h.2 94 rfl, p8]⟩
  · have := hB_lt p2 (i := svN st - 1) (by omega)
    rw [hB_eq e17]
    exact p3.tr (h.bk (by omega))
  · have := hB_lt p2 (i := i) (by omega)
    rw [hB_eq e17]
    exact (p4 i hi).tr (h.bk (by omega))
theorem SC_Psh {C D C' : CT} {st : Nat} (hJ : JW C st) (h : SC C D) (hP : Psh D st C') : Psh C st C' := by
  obtain ⟨p1, p2, p3, p4, p5, p6, p7, p8⟩ := hP
  obtain ⟨a1, a2, -⟩ := hJ
  have e17 := h.lo (i := 17) (by decide)
  have hs := svN_le a1
  refine ⟨p1, p2, (h.bk (by decide)).tr p3, fun i hi => ?_, fun i h1 h2 => by rw [p5 i h1 h2, h.lo h2], by rw [p6, h.lo (by decide)], by rw [p7, h.1], by rw [p8, h.2 94 rfl]⟩
  have := p4 i hi
  rw [hB_eq e17] at this
  have hl := hB_lt a2 (i := i + (if st = 4 then 1 else 0)) (by unfold svN at hi; split at hi <;> split <;> omega)
  exact (h.bk (by omega)).tr this
/-- a push, and then a change of the state's own block and of scratch -/
theorem Psh_of {C C1 C' : CT} {st : Nat} (hst : st ≤ 4) (hP : Pu C st C1) (h : ∀ i, (i = 0 ∨ 16 ≤ i) → i < 95 → C' i = C1 i) : Psh C st C' := by
  obtain ⟨p1, p2, p3, p4, p5⟩ := hP
  have e17 := h 17 (by decide) (by decide)
  have hs := svN_le hst
  refine ⟨by rw [h 16 (by decide) (by decide), p2], HiK_eq p3 e17, fun i hi j hj => ?_, fun i hi k hk j hj => ?_, fun i h1 h2 => by rw [h i (by omega) (by omega), p1 i (by omega)], by rw [h 0 (by decide) (by decide), p1 0 (by decide)], by rw [h 93 (by decide) (by decide), p1 93 (by decide)], by rw [h 94 (by decide) (by decide), p1 94 (by decide)]⟩
  · have := hB_lt p3 (i := svN st - 1) (by omega)
    rw [hB_eq e17]
    show C' (hB C1 (svN st - 1) + i) j = C (1 + i) j
    rw [h _ (by omega) (by omega)]
    exact p4 i hi j hj
  · have := hB_lt p3 (i := i) (by omega)
    rw [hB_eq e17]
    show C' (hB C1 i + k) j = C (hB C (i + (if st = 4 then 1 else 0)) + k) j
    rw [h _ (by omega) (by omega)]
    exact p5 i hi k hk j hj
def Rq (G : GT) (a : Nat) (C : CT) (v : Int32) : Option Value → Hp → Prop := fun r h' => ∃ D, r = some (.int v) ∧ h' = B G a D ∧ SC C D
/-- a change: what is answered, and what is said of the world behind it -/
def Rm (G : GT) (a : Nat) (v : Int32) (P : CT → Prop) : Option Value → Hp → Prop := fun r h' => ∃ D, r = some (.int v) ∧ h' = B G a D ∧ P D
section RQ
variable {G : GT} {l : Launch} {y : MethodName} {cc : ByteArray} {mL : Nat} {ret : Option FieldType} {d sz a st : Nat} {av : List Value} {h : Hp} {v : Int32} {C C' D : CT} {P : CT → Prop}
theorem rq_w {v' : Int32} (e : v' = v) (hD : SC C D) (hc : Ct G l y cc mL ret d 0 0 sz av h (Rw G a (.int v') D)) : Ct G l y cc mL ret d 0 0 sz av h (Rq G a C v) := hc.weaken (fun r h' q => ⟨D, by rw [← e]; exact q.1, q.2, hD⟩)
theorem rq_s {v' : Int32} (e : v' = v) (hD : SC C D) (hc : Ct G l y cc mL ret d 0 0 sz av h (Rs G a (.int v') D)) : Ct G l y cc mL ret d 0 0 sz av h (Rq G a C v) := hc.weaken (fun r h' q => by
  obtain ⟨D', q1, q2, q3⟩ := q
  exact ⟨D', by rw [← e]; exact q1, q2, hD.tr q3⟩)
theorem rm_p {v' : Int32} {F : CT → CT} (e : v' = v) (hc : Ct G l y cc mL ret d 0 0 sz av h (Rp G a (.int v') C st F)) (hp : ∀ C1, Pu C st C1 → P (F C1)) : Ct G l y cc mL ret d 0 0 sz av h (Rm G a v P) := hc.weaken (fun r h' q => by
  obtain ⟨C1, q1, q2, q3⟩ := q
  exact ⟨F C1, by rw [← e]; exact q1, q2, hp C1 q3⟩)
end RQ
section ROWSQ
variable {G : GT} {l : Launch} {own mn : String} {cc : ByteArray} {mL : Nat} {ret : Option FieldType} {R : Room} {E : ET} {Qc : QT} {sz k n pc nx tg : Nat} {L : List (Option Value)} {st : List Value} {a : Nat} {C D : CT}
theorem V_rq {y : MethodName} {yc : ByteArray} {ymL d' idx : Nat} {yret : Option FieldType} {As rest stk : List Value} {v : Int32} (hd : Dc cc pc (.invokevirtual idx) 3 nx) (hk : LkV own idx y) (hy : Yk y yc ymL yret As.length) (hci : RX6 = y.cls)
    (hm : Ct G l y yc ymL yret d' 0 0 (sz + k) (.ref a :: As) (B G a D) (Rq G a C v)) (hst : stk = As.reverse ++ .ref a :: rest) (h8 : (rest.map fun v => v.category).sum ≤ 8) (hR : d' + 1 ≤ R.frames ∧ 8 + (ymL + 11) + 31 * d' ≤ R.locals ∧ k + 0 ≤ R.cells ∧ n + 0 ≤ R.slots)
    (kk : ∀ D', SC C D' → V G l own mn cc mL ret R E Qc sz k n nx L (.int v :: rest) (B G a D')) : V G l own mn cc mL ret R E Qc sz k n pc L stk (B G a D) :=
  V_callV hd hk hy (B_at (j := 0) (by decide) rfl) (congrArg some hci) hm hst h8 hR (fun r h' q => by
    obtain ⟨D', rfl, rfl, q3⟩ := q
    exact kk D' q3)
theorem V_rqS {y : MethodName} {yc : ByteArray} {ymL d' idx : Nat} {yret : Option FieldType} {As rest stk : List Value} {v : Int32} (hd : Dc cc pc (.invokestatic idx) 3 nx) (hk : LkS own idx y) (hy : Yk y yc ymL yret As.length)
    (hm : Ct G l y yc ymL yret d' 0 0 (sz + k) As (B G a D) (Rq G a C v)) (hst : stk = As.reverse ++ rest) (h8 : (rest.map fun v => v.category).sum ≤ 8) (hR : d' + 1 ≤ R.frames ∧ 8 + (ymL + 11) + 31 * d' ≤ R.locals ∧ k + 0 ≤ R.cells ∧ n + 0 ≤ R.slots)
    (kk : ∀ D', SC C D' → V G l own mn cc mL ret R E Qc sz k n nx L (.int v :: rest) (B G a D')) : V G l own mn cc mL ret R E Qc sz k n pc L stk (B G a D) :=
  V_callS hd hk hy hm hst h8 hR (fun r h' q => by
    obtain ⟨D', rfl, rfl, q3⟩ := q
    exact kk D' q3)
theorem V_rm {y : MethodName} {yc : ByteArray} {ymL d' idx : Nat} {yret : Option FieldType} {As rest stk : List Value} {v : Int32} {P : CT → Prop} (hd : Dc cc pc (.invokevirtual idx) 3 nx) (hk : LkV own idx y) (hy : Yk y yc ymL yret As.length) (hci : RX6 = y.cls)
    (hm : Ct G l y yc ymL yret d' 0 0 (sz + k) (.ref a :: As) (B G a D) (Rm G a v P)) (hst : stk = As.reverse ++ .ref a :: rest) (h8 : (rest.map fun v => v.category).sum ≤ 8) (hR : d' + 1 ≤ R.frames ∧ 8 + (ymL + 11) + 31 * d' ≤ R.locals ∧ k + 0 ≤ R.cells ∧ n + 0 ≤ R.slots)
    (kk : ∀ D', P D' → V G l own mn cc mL ret R E Qc sz k n nx L (.int v :: rest) (B G a D')) : V G l own mn cc mL ret R E Qc sz k n pc L stk (B G a D) :=
  V_callV hd hk hy (B_at (j := 0) (by decide) rfl) (congrArg some hci) hm hst h8 hR (fun r h' q => by
    obtain ⟨D', rfl, rfl, q3⟩ := q
    exact kk D' q3)
end ROWSQ
theorem ix_ex {x : Int32} {n : Nat} (h : isIx x n) : ∃ m, m < n ∧ x = nI m := ⟨x.toInt.toNat, by have := h.1; have := h.2; omega, nI_ex h.1⟩
theorem cl_ex {x : Int32} {n : Nat} (hn : n < 1000) (h : 0 ≤ x ∧ x ≤ nI n) : ∃ m, m ≤ n ∧ x = nI m := by
  obtain ⟨h1, h2⟩ := h
  rw [i_le] at h1 h2
  rw [nI_toInt (by omega)] at h2
  have h1' : 0 ≤ x.toInt := h1
  exact ⟨x.toInt.toNat, by omega, nI_ex h1'⟩
