/-! Pure words of the class: out of the texts of the row whole. -/
abbrev isIx (x : Int32) (n : Nat) : Prop := 0 ≤ x.toInt ∧ x.toInt < (n : Int)
def gN (v : Int32) : Int32 := if v = 0 ∨ v = 3 ∨ v = 4 then 29 else 99
abbrev inR (v x : Int32) : Prop := 0 ≤ x ∧ x ≤ gN v
theorem cpy_0 {f g : Nat → Int32} {u v : Nat} : va_cpy f g u v 0 = g := by
  funext j; unfold va_cpy; rw [if_neg (by omega)]
def svN (st : Nat) : Nat := if st = 4 then 4 else st + 1
abbrev isV (v : Int32) : Prop := v = 0 ∨ v = 1 ∨ v = 2 ∨ v = 3 ∨ v = 4
abbrev pStep (z : Nat → Int32) (hd : Nat) (v : Int32) (m : Nat) : Prop := isV v ∨ z hd ≤ nI m
section SPC
variable {G : GT} {l : Launch} {sz a : Nat} {C : CT}
theorem nv_out {v : Int32} (h : ¬ isV v) : v.toInt < 0 ∨ 4 < v.toInt := by
  by_cases h0 : v.toInt < 0
  · exact Or.inl h0
  · refine Or.inr ?_
    have e := nI_ex (x := v) (by omega)
    by_cases h5 : v.toInt.toNat < 5
    · refine absurd ?_ h
      rw [e]
      rcases (show v.toInt.toNat = 0 ∨ v.toInt.toNat = 1 ∨ v.toInt.toNat = 2 ∨ v.toInt.toNat = 3 ∨ v.toInt.toNat = 4 by omega) with z | z | z | z | z <;> rw [z] <;> decide
    · omega
end SPC
theorem gN_29 {v : Int32} : (gN v = 29 ∧ (v = 0 ∨ v = 3 ∨ v = 4)) ∨ (gN v = 99 ∧ ¬ (v = 0 ∨ v = 3 ∨ v = 4)) := by
  unfold gN
  by_cases h : v = 0 ∨ v = 3 ∨ v = 4
  · rw [if_pos h]; exact Or.inl ⟨rfl, h⟩
  · rw [if_neg h]; exact Or.inr ⟨rfl, h⟩
theorem inR_nat {v x : Int32} (h : inR v x) : x = nI x.toInt.toNat ∧ x.toInt.toNat < 100 ∧ ((v = 0 ∨ v = 3 ∨ v = 4) → x.toInt.toNat < 30) := by
  obtain ⟨h1, h2⟩ := h
  rw [i_le] at h1 h2
  have h0 : (0 : Int32).toInt = 0 := rfl
  have h29 : (29 : Int32).toInt = 29 := rfl
  have h99 : (99 : Int32).toInt = 99 := rfl
  refine ⟨nI_ex (by omega), ?_, ?_⟩
  · rcases gN_29 (v := v) with ⟨e, -⟩ | ⟨e, -⟩ <;> rw [e] at h2 <;> omega
  · intro hv
    rcases gN_29 (v := v) with ⟨e, -⟩ | ⟨e, n⟩
    · rw [e] at h2; omega
    · exact absurd hv n
theorem isIx_n {x : Int32} {n : Nat} (h : isIx x n) : x = nI x.toInt.toNat ∧ x.toInt.toNat < n := by
  unfold isIx at h
  exact ⟨nI_ex (by omega), by omega⟩
theorem isIx_nI {n tc : Nat} (h : n < tc) (htc : tc < 1000) : isIx (nI n) tc := by
  unfold isIx; rw [nI_toInt (by omega)]; omega
def sumF (f : Nat → Int32) : Nat → Int32
  | 0 => 0
  | k + 1 => sumF f k + f k
def cntEq (f g : Nat → Int32) : Nat → Int32
  | 0 => 0
  | k + 1 => cntEq f g k + bI (f k = g k)
def rowsN (lk : Nat → Nat → Bool) : Nat → Int32
  | 0 => 0
  | i + 1 => rowsN lk i + bI (∀ m, m < i → lk i m = false)
def bpS (lk : Nat → Nat → Bool) (cn : Nat → Nat → Int32) (i j : Nat) (s : Int32 × Int32) : Int32 × Int32 := if lk i j = true ∧ s.2 < cn i j then (10 * nI i + nI j, cn i j) else s
def bpI (lk : Nat → Nat → Bool) (cn : Nat → Nat → Int32) (i : Nat) : Nat → Nat → Int32 × Int32 → Int32 × Int32
  | _, 0, s => s
  | j, m + 1, s => bpI lk cn i (j + 1) m (bpS lk cn i j s)
def bpO (lk : Nat → Nat → Bool) (cn : Nat → Nat → Int32) (tc : Nat) : Nat → Nat → Int32 × Int32 → Int32 × Int32
  | _, 0, s => s
  | i, m + 1, s => bpO lk cn tc (i + 1) m (bpI lk cn i (i + 1) (tc - (i + 1)) s)
def f2 (x : Int32) : Int32 := if x = 2 then 1 else 0
def rowStep (c : Nat → Int32) (hd : Nat) (v : Int32) (m : Nat) : (Nat → Int32) × Nat :=
  if v = 0 then (c, m)
  else if v = 1 then (upd c hd (nI m), hd)
  else if v = 2 then (upd c hd (c hd + nI m - (c hd + nI m) / 100 * 100), hd)
  else if v = 3 then (upd c hd (c m), hd)
  else if v = 4 then (upd (upd c hd (c m)) m (c hd), hd)
  else (c, hd)
/-- cells, hand, steps done, tests passed -/
abbrev PS : Type := (Nat → Int32) × Nat × Int32 × Int32
def stS (v : Int32) (m : Nat) (s : PS) : PS := ((rowStep s.1 s.2.1 v m).1, (rowStep s.1 s.2.1 v m).2, s.2.2.1 + 1, s.2.2.2 + (if v = 5 ∧ pStep s.1 s.2.1 v m then 1 else 0))
def plTurn (bv bn bs : Nat → Int32) (r : Int32) : Nat → Nat → PS → PS × Int32
  | 0, _, s => (s, 0)
  | m + 1, k, s =>
    if inR (bv k) (bn k + r * bs k) then
      if pStep s.1 s.2.1 (bv k) (bn k + r * bs k).toInt.toNat then plTurn bv bn bs r m (k + 1) (stS (bv k) (bn k + r * bs k).toInt.toNat s)
      else (stS (bv k) (bn k + r * bs k).toInt.toNat s, 2)
    else (s, 1)
def plBody (bv bn bs : Nat → Int32) (size : Nat) : Nat → Nat → PS → PS × Int32
  | 0, _, s => (s, 0)
  | m + 1, t, s =>
    if (plTurn bv bn bs (nI t) size 0 s).2 = 0 then plBody bv bn bs size m (t + 1) (plTurn bv bn bs (nI t) size 0 s).1
    else plTurn bv bn bs (nI t) size 0 s
theorem rowStep_hd {c : Nat → Int32} {hd : Nat} {v x : Int32} (hhd : hd < 30) (hx : inR v x) : (rowStep c hd v x.toInt.toNat).2 < 30 := by
  unfold rowStep
  split
  · exact (inR_nat hx).2.2 (Or.inl ‹_›)
  split
  · exact hhd
  split
  · exact hhd
  split
  · exact hhd
  split <;> exact hhd
theorem plTurn_hd {bv bn bs : Nat → Int32} {r : Int32} : ∀ (m k : Nat) (s : PS), s.2.1 < 30 → (plTurn bv bn bs r m k s).1.2.1 < 30 := by
  intro m
  induction m with
  | zero => intro k s h; exact h
  | succ m ih =>
    intro k s h
    simp only [plTurn]
    split
    · split
      · exact ih _ _ (rowStep_hd h ‹_›)
      · exact rowStep_hd h ‹_›
    · exact h
theorem i_add0 (x : Int32) : x + 0 = x := by simp
def mtU (v x t : Int32) : Int32 := if t = 0 then -5 else 1 + (if 0 < t then (gN v - x) / t else x / -t)
def mtStep (v x t most : Int32) : Int32 := if ¬ mtU v x t = -5 ∧ (most = -5 ∨ mtU v x t < most) then mtU v x t else most
def mtF (bv bn bs : Nat → Int32) : Nat → Int32
  | 0 => -5
  | k + 1 => mtStep (bv k) (bn k) (bs k) (mtF bv bn bs k)
def fewF (bv bn bs : Nat → Int32) (size cl : Nat) (v : Int32) : Nat → Nat → PS → Int32
  | 0, _, _ => -5
  | m + 1, t, s =>
    if (plTurn bv bn bs (nI t) size 0 s).1.1 cl = v then nI (t + 1)
    else if (plTurn bv bn bs (nI t) size 0 s).2 = 0 then fewF bv bn bs size cl v m (t + 1) (plTurn bv bn bs (nI t) size 0 s).1
    else -5
def lcsR (prev : Nat → Int32) (e : Nat → Bool) : Nat → Int32
  | 0 => 0
  | k + 1 => if e k = true then prev k + 1 else if prev (k + 1) < lcsR prev e k then lcsR prev e k else prev (k + 1)
def lcsF (e : Nat → Nat → Bool) : Nat → Nat → Int32
  | 0 => fun _ => 0
  | i + 1 => lcsR (lcsF e i) (e i)
abbrev isD (c : Int32) : Prop := 48 ≤ c ∧ c ≤ 57
def dgN (c : Int32) : Nat := (c.toInt - 48).toNat
theorem dgN_e {c : Int32} (h : isD c) : c - 48 = nI (dgN c) ∧ dgN c ≤ 9 := by
  obtain ⟨h1, h2⟩ := h
  rw [i_le] at h1 h2
  have e1 : (48 : Int32).toInt = 48 := rfl
  have e2 : (57 : Int32).toInt = 57 := rfl
  rw [e1] at h1
  rw [e2] at h2
  have hc := nI_ex (x := c) (by omega)
  have hd : dgN c = c.toInt.toNat - 48 := by unfold dgN; omega
  refine ⟨?_, by omega⟩
  rw [hd]
  have hm : 48 ≤ c.toInt.toNat := by omega
  generalize c.toInt.toNat = m at hc hd hm
  rw [hc, show (48 : Int32) = nI 48 from rfl, pk_sub hm]
theorem dgN_lt {c : Int32} (h : isD c) : dgN c ≤ 9 := (dgN_e h).2
def pNum (ch : Nat → Int32) (lo hi p : Nat) : Option Nat × Nat :=
  if isD (ch p) ∧ (lo = 0 ∨ 0 < dgN (ch p)) then
    if 0 < dgN (ch p) ∧ isD (ch (p + 1)) ∧ 10 * dgN (ch p) + dgN (ch (p + 1)) ≤ hi then (some (10 * dgN (ch p) + dgN (ch (p + 1))), p + 2)
    else (some (dgN (ch p)), p + 1)
  else (none, p)
def vB (c : Int32) : Option Nat := if c = 103 then some 0 else if c = 119 then some 1 else if c = 97 then some 2 else if c = 99 then some 3 else if c = 115 then some 4 else if c = 116 then some 5 else none
abbrev TS : Type := Nat × Nat × Int32
def gM (v : Nat) : Nat := if v = 0 ∨ v = 3 ∨ v = 4 then 29 else 99
def pStp (ch : Nat → Int32) (hs : Bool) (p : Nat) : Option TS × Nat :=
  match vB (ch p) with
  | none => (none, p)
  | some v =>
    match pNum ch 0 (gM v) (p + 1) with
    | (none, p1) => (none, p1)
    | (some x, p1) =>
      if hs = true ∧ (ch p1 = 43 ∨ ch p1 = 45) then
        match pNum ch 1 99 (p1 + 1) with
        | (none, p2) => (none, p2)
        | (some y, p2) => (some (v, x, if ch p1 = 43 then nI y else -nI y), p2)
      else (some (v, x, 0), p1)
def pBdy (ch : Nat → Int32) : Nat → Nat → List TS → Option (List TS) × Nat
  | 0, p, _ => (none, p)
  | f + 1, p, acc =>
    match pStp ch true p with
    | (none, p1) => (none, p1)
    | (some s, p1) => if ch p1 = 44 then pBdy ch f (p1 + 1) (acc ++ [s]) else if ch p1 = 41 then (some (acc ++ [s]), p1 + 1) else (none, p1)
def pItm (ch : Nat → Int32) (p : Nat) : Option (Nat × List TS) × Nat :=
  if isD (ch p) then
    match pNum ch 1 99 p with
    | (none, p1) => (none, p1)
    | (some T, p1) =>
      if T = 1 then (none, p1)
      else if ch p1 = 40 then
        match pBdy ch 60 (p1 + 1) [] with
        | (none, p2) => (none, p2)
        | (some b, p2) => (some (T, b), p2)
      else (none, p1)
  else
    match pStp ch false p with
    | (none, p1) => (none, p1)
    | (some s, p1) => (some (0, [s]), p1)
def pTxt (ch : Nat → Int32) (n : Nat) : Nat → Nat → List (Nat × List TS) → Option (List (Nat × List TS)) × Nat
  | 0, p, _ => (none, p)
  | f + 1, p, acc =>
    match pItm ch p with
    | (none, p1) => (none, p1)
    | (some i, p1) => if ch p1 = 59 then pTxt ch n f (p1 + 1) (acc ++ [i]) else if p1 = n then (some (acc ++ [i]), p1) else (none, p1)
def chF (t : Nat → Int32) (n p : Nat) : Int32 := if p < n then t p else 0
/-- places never pass the end -/
theorem pNum_le {ch : Nat → Int32} {n lo hi p : Nat} (h : ∀ j, n ≤ j → ch j = 0) (hp : p ≤ n) : (pNum ch lo hi p).2 ≤ n ∧ p ≤ (pNum ch lo hi p).2 ∧ ((pNum ch lo hi p).1 ≠ none → p < (pNum ch lo hi p).2) := by
  have hn : ∀ j, isD (ch j) → j < n := fun j hj => by
    rcases Nat.lt_or_ge j n with q | q
    · exact q
    · rw [h j q] at hj
      exact absurd hj (by decide)
  unfold pNum
  split
  · rename_i h1
    have := hn p h1.1
    split
    · rename_i h2
      have := hn (p + 1) h2.2.1
      exact ⟨by show p + 2 ≤ n; omega, by show p ≤ p + 2; omega, fun _ => by show p < p + 2; omega⟩
    · exact ⟨by show p + 1 ≤ n; omega, by show p ≤ p + 1; omega, fun _ => by show p < p + 1; omega⟩
  · exact ⟨hp, Nat.le_refl _, fun z => absurd rfl z⟩
theorem vB_lt {c : Int32} {v : Nat} (h : vB c = some v) : v ≤ 5 ∧ c ≠ 0 := by
  unfold vB at h
  repeat' split at h
  all_goals first | (cases h; refine ⟨by omega, ?_⟩; rename_i q; rw [q]; decide) | cases h
theorem pNum_hi {ch : Nat → Int32} {lo hi p x : Nat} (hh : 9 ≤ hi) (h : (pNum ch lo hi p).1 = some x) : x ≤ hi ∧ (lo = 0 ∨ 0 < x) := by
  unfold pNum at h
  split at h
  · rename_i h1
    have := dgN_lt h1.1
    split at h
    · rename_i h2
      cases h
      exact ⟨h2.2.2, Or.inr (by omega)⟩
    · cases h
      exact ⟨by omega, h1.2⟩
  · cases h
theorem gM_9 {v : Nat} : 9 ≤ gM v ∧ gM v ≤ 99 := by unfold gM; split <;> omega
theorem gN_gM {v : Nat} (h : v ≤ 5) : gN (nI v) = nI (gM v) := by
  rcases (show v = 0 ∨ v = 1 ∨ v = 2 ∨ v = 3 ∨ v = 4 ∨ v = 5 by omega) with rfl | rfl | rfl | rfl | rfl | rfl <;> rfl
/-- what a step of a text is -/
def tsOK (s : TS) : Prop := s.1 ≤ 5 ∧ s.2.1 ≤ gM s.1
theorem pStp_ok {ch : Nat → Int32} {n p : Nat} {hs : Bool} (h : ∀ j, n ≤ j → ch j = 0) (hp : p ≤ n) : (pStp ch hs p).2 ≤ n ∧ p ≤ (pStp ch hs p).2 ∧ ∀ s, (pStp ch hs p).1 = some s → p + 2 ≤ (pStp ch hs p).2 ∧ tsOK s := by
  unfold pStp
  cases hv : vB (ch p) with
  | none => exact ⟨hp, Nat.le_refl _, fun s hs => by cases hs⟩
  | some v =>
    obtain ⟨hv5, hv0⟩ := vB_lt hv
    have hpn : p < n := by
      rcases Nat.lt_or_ge p n with q | q
      · exact q
      · exact absurd (h p q) hv0
    have h1 := pNum_le (lo := 0) (hi := gM v) h (show p + 1 ≤ n by omega)
    have h1x : ∀ x, (pNum ch 0 (gM v) (p + 1)).1 = some x → x ≤ gM v ∧ (0 = 0 ∨ 0 < x) := fun x => pNum_hi gM_9.1
    simp only
    generalize pNum ch 0 (gM v) (p + 1) = r at h1 h1x
    obtain ⟨x, p1⟩ := r
    cases x with
    | none => exact ⟨h1.1, by have := h1.2.1; simp only at this ⊢; omega, fun s hs => by cases hs⟩
    | some x =>
      have hx := (h1x x rfl).1
      have h11 := h1.1
      have h12 := h1.2.2 (by simp)
      simp only at h11 h12 ⊢
      by_cases hc : hs = true ∧ (ch p1 = 43 ∨ ch p1 = 45)
      · rw [if_pos hc]
        have hp1 : p1 < n := by
          rcases Nat.lt_or_ge p1 n with q | q
          · exact q
          · have h0 := h p1 q
            rcases hc.2 with z | z <;> (rw [h0] at z; exact absurd z (by decide))
        have h2 := pNum_le (lo := 1) (hi := 99) h (show p1 + 1 ≤ n by omega)
        generalize pNum ch 1 99 (p1 + 1) = r2 at h2
        obtain ⟨y, p2⟩ := r2
        have h21 := h2.1
        have h22 := h2.2.1
        simp only at h21 h22
        cases y with
        | none => exact ⟨h21, by show p ≤ p2; omega, fun s hs => by cases hs⟩
        | some y => exact ⟨h21, by show p ≤ p2; omega, fun s hs => by cases hs; exact ⟨by show p + 2 ≤ p2; omega, hv5, hx⟩⟩
      · rw [if_neg hc]
        exact ⟨h11, by show p ≤ p1; omega, fun s hs => by cases hs; exact ⟨by show p + 2 ≤ p1; omega, hv5, hx⟩⟩
theorem vB_none {ch : Nat → Int32} {n p : Nat} (h : ∀ j, n ≤ j → ch j = 0) (hc : ch p ≠ 0) : p < n := by
  rcases Nat.lt_or_ge p n with q | q
  · exact q
  · exact absurd (h p q) hc
theorem chF_0 {t : Nat → Int32} {n : Nat} : ∀ j, n ≤ j → chF t n j = 0 := fun j hj => by unfold chF; rw [if_neg (by omega)]
theorem upd_comm {f : Nat → Int32} {i j : Nat} {x y : Int32} (h : i ≠ j) : upd (upd f i x) j y = upd (upd f j y) i x := by
  funext k; unfold upd
  by_cases h1 : k = j
  · rw [if_pos h1, if_neg (by omega), if_pos h1]
  · rw [if_neg h1]
    by_cases h2 : k = i
    · rw [if_pos h2, if_pos h2]
    · rw [if_neg h2, if_neg h2, if_neg h1]
theorem pBdy_ok {ch : Nat → Int32} {n : Nat} (h : ∀ j, n ≤ j → ch j = 0) : ∀ (f p : Nat) (acc : List TS), p ≤ n → (pBdy ch f p acc).2 ≤ n ∧ p ≤ (pBdy ch f p acc).2 ∧ ∀ b, (pBdy ch f p acc).1 = some b → p + 3 * (b.length - acc.length) ≤ (pBdy ch f p acc).2 ∧ acc.length < b.length ∧ ((∀ s ∈ acc, tsOK s) → ∀ s ∈ b, tsOK s) := by
  intro f
  induction f with
  | zero => intro p acc hp; exact ⟨hp, Nat.le_refl _, fun b hb => by cases hb⟩
  | succ f ih =>
    intro p acc hp
    have h1 := pStp_ok (hs := true) h hp
    rw [pBdy]
    generalize pStp ch true p = r at h1
    obtain ⟨s, p1⟩ := r
    cases s with
    | none => exact ⟨h1.1, h1.2.1, fun b hb => by cases hb⟩
    | some s =>
      obtain ⟨h11, h12, h13⟩ := h1
      obtain ⟨h14, h15⟩ := h13 s rfl
      simp only at h11 h12 h14 ⊢
      by_cases hc : ch p1 = 44
      · rw [if_pos hc]
        have hp1 := vB_none h (show ch p1 ≠ 0 by rw [hc]; decide)
        obtain ⟨i1, i2, i3⟩ := ih (p1 + 1) (acc ++ [s]) (by omega)
        refine ⟨i1, by omega, fun b hb => ?_⟩
        obtain ⟨j1, j2, j3⟩ := i3 b hb
        rw [List.length_append, List.length_singleton] at j1 j2
        refine ⟨by omega, by omega, fun ha => j3 (fun s' hs' => ?_)⟩
        rcases List.mem_append.mp hs' with q | q
        · exact ha s' q
        · rw [List.mem_singleton.mp q]; exact h15
      · rw [if_neg hc]
        by_cases hd : ch p1 = 41
        · rw [if_pos hd]
          have hp1 := vB_none h (show ch p1 ≠ 0 by rw [hd]; decide)
          refine ⟨by show p1 + 1 ≤ n; omega, by show p ≤ p1 + 1; omega, fun b hb => ?_⟩
          cases hb
          rw [List.length_append, List.length_singleton]
          refine ⟨by show p + 3 * (acc.length + 1 - acc.length) ≤ p1 + 1; omega, by omega, fun ha s' hs' => ?_⟩
          rcases List.mem_append.mp hs' with q | q
          · exact ha s' q
          · rw [List.mem_singleton.mp q]; exact h15
        · rw [if_neg hd]
          exact ⟨h11, h12, fun b hb => by cases hb⟩
/-- what an item of a text is -/
def itOK (i : Nat × List TS) : Prop := ((i.1 = 0 ∧ i.2.length = 1) ∨ (2 ≤ i.1 ∧ i.1 ≤ 99 ∧ 1 ≤ i.2.length ∧ i.2.length ≤ 19)) ∧ ∀ s ∈ i.2, tsOK s
theorem pItm_ok {ch : Nat → Int32} {n p : Nat} (h : ∀ j, n ≤ j → ch j = 0) (hp : p ≤ n) (hn : n ≤ 60) : (pItm ch p).2 ≤ n ∧ p ≤ (pItm ch p).2 ∧ ∀ i, (pItm ch p).1 = some i → p + 2 ≤ (pItm ch p).2 ∧ itOK i := by
  unfold pItm
  by_cases hd : isD (ch p)
  · rw [if_pos hd]
    have h1 := pNum_le (lo := 1) (hi := 99) h hp
    have h1x : ∀ x, (pNum ch 1 99 p).1 = some x → x ≤ 99 ∧ (1 = 0 ∨ 0 < x) := fun x => pNum_hi (by decide)
    generalize pNum ch 1 99 p = r at h1 h1x
    obtain ⟨T, p1⟩ := r
    cases T with
    | none => exact ⟨h1.1, h1.2.1, fun i hi => by cases hi⟩
    | some T =>
      have hT := h1x T rfl
      have h11 := h1.1
      have h12 := h1.2.2 (by simp)
      simp only at h11 h12 ⊢
      by_cases hT1 : T = 1
      · rw [if_pos hT1]; exact ⟨h11, by show p ≤ p1; omega, fun i hi => by cases hi⟩
      · rw [if_neg hT1]
        by_cases hc : ch p1 = 40
        · rw [if_pos hc]
          have hp1 := vB_none h (show ch p1 ≠ 0 by rw [hc]; decide)
          have h2 := pBdy_ok h 60 (p1 + 1) [] (by omega)
          generalize pBdy ch 60 (p1 + 1) [] = r2 at h2
          obtain ⟨b, p2⟩ := r2
          obtain ⟨h21, h22, h23⟩ := h2
          simp only at h21 h22 h23
          cases b with
          | none => exact ⟨h21, by show p ≤ p2; omega, fun i hi => by cases hi⟩
          | some b =>
            obtain ⟨h24, h25, h26⟩ := h23 b rfl
            simp only [List.length_nil] at h24 h25
            refine ⟨h21, by show p ≤ p2; omega, fun i hi => ?_⟩
            cases hi
            refine ⟨by show p + 2 ≤ p2; omega, Or.inr ⟨by show 2 ≤ T; omega, hT.1, h25, by show b.length ≤ 19; omega⟩, h26 (fun s hs => by cases hs)⟩
        · rw [if_neg hc]; exact ⟨h11, by show p ≤ p1; omega, fun i hi => by cases hi⟩
  · rw [if_neg hd]
    have h1 := pStp_ok (hs := false) h hp
    generalize pStp ch false p = r at h1
    obtain ⟨s, p1⟩ := r
    cases s with
    | none => exact ⟨h1.1, h1.2.1, fun i hi => by cases hi⟩
    | some s =>
      obtain ⟨h11, h12, h13⟩ := h1
      obtain ⟨h14, h15⟩ := h13 s rfl
      exact ⟨h11, h12, fun i hi => by cases hi; exact ⟨h14, Or.inl ⟨rfl, rfl⟩, fun s' hs' => by rw [List.mem_singleton.mp hs']; exact h15⟩⟩
def bvF (b : List TS) (k : Nat) : Int32 := nI ((b.getD k (0, 0, 0)).1)
def bnF (b : List TS) (k : Nat) : Int32 := nI ((b.getD k (0, 0, 0)).2.1)
def bsF (b : List TS) (k : Nat) : Int32 := (b.getD k (0, 0, 0)).2.2
/-- the cells of scratch -/
def scr (i : Nat) : Bool := i == 93 || (decide (95 ≤ i) && decide (i ≤ 104))
/-- alike but for scratch -/
def SC (C C' : CT) : Prop := C' 93 0 = C 93 0 ∧ ∀ i, scr i = false → C' i = C i
theorem SC.rf {C : CT} : SC C C := ⟨rfl, fun _ _ => rfl⟩
theorem SC.tr {C C1 C2 : CT} (h : SC C C1) (h1 : SC C1 C2) : SC C C2 := ⟨h1.1.trans h.1, fun i hi => (h1.2 i hi).trans (h.2 i hi)⟩
def Rs (G : GT) (a : Nat) (v : Value) (C : CT) : Option Value → Hp → Prop := fun r h' => ∃ C', r = some v ∧ h' = B G a C' ∧ SC C C'
theorem Rs_i {G : GT} {a : Nat} {x y : Int32} {C C' : CT} (e : x = y) (e2 : SC C' C) : Rs G a (.int y) C' (some (.int x)) (B G a C) := ⟨C, by rw [e], rfl, e2⟩
theorem scr_ne {i k : Nat} (hk : scr k = true) (hi : scr i = false) : i ≠ k := fun e => by rw [e, hk] at hi; cases hi
