/-! What a text is: its reading, over ch (the sign at a place, 0 behind the end); both sides are tied to it. -/
abbrev isD (c : Int32) : Prop := 48 ≤ c ∧ c ≤ 57
def dgN (c : Int32) : Nat := (c.toInt - 48).toNat
theorem dgN_e {c : Int32} (h : isD c) : c - 48 = nI (dgN c) ∧ dgN c ≤ 9 := by
  obtain ⟨h1, h2⟩ := h
  rw [i_le] at h1 h2
  have e1 : (48 : Int32).toInt = 48 := rfl
  have e2 : (57 : Int32).toInt = 57 := rfl
  rw [e1] at h1
  rw [e2] at h2
  have hc := nI_ex (x := c) (by omega)
  have hd : dgN c = c.toInt.toNat - 48 := by unfold dgN; omega
  refine ⟨?_, by omega⟩
  rw [hd]
  have hm : 48 ≤ c.toInt.toNat := by omega
  generalize c.toInt.toNat = m at hc hd hm
  rw [hc, show (48 : Int32) = nI 48 from rfl, pk_sub hm]
theorem dgN_lt {c : Int32} (h : isD c) : dgN c ≤ 9 := (dgN_e h).2
def pNum (ch : Nat → Int32) (lo hi p : Nat) : Option Nat × Nat :=
  if isD (ch p) ∧ (lo = 0 ∨ 0 < dgN (ch p)) then
    if 0 < dgN (ch p) ∧ isD (ch (p + 1)) ∧ 10 * dgN (ch p) + dgN (ch (p + 1)) ≤ hi then (some (10 * dgN (ch p) + dgN (ch (p + 1))), p + 2)
    else (some (dgN (ch p)), p + 1)
  else (none, p)
def vB (c : Int32) : Option Nat := if c = 103 then some 0 else if c = 119 then some 1 else if c = 97 then some 2 else if c = 99 then some 3 else if c = 115 then some 4 else if c = 116 then some 5 else none
abbrev TS : Type := Nat × Nat × Int32
def gM (v : Nat) : Nat := if v = 0 ∨ v = 3 ∨ v = 4 then 29 else 99
def pStp (ch : Nat → Int32) (hs : Bool) (p : Nat) : Option TS × Nat :=
  match vB (ch p) with
  | none => (none, p)
  | some v =>
    match pNum ch 0 (gM v) (p + 1) with
    | (none, p1) => (none, p1)
    | (some x, p1) =>
      if hs = true ∧ (ch p1 = 43 ∨ ch p1 = 45) then
        match pNum ch 1 99 (p1 + 1) with
        | (none, p2) => (none, p2)
        | (some y, p2) => (some (v, x, if ch p1 = 43 then nI y else -nI y), p2)
      else (some (v, x, 0), p1)
def pBdy (ch : Nat → Int32) : Nat → Nat → List TS → Option (List TS) × Nat
  | 0, p, _ => (none, p)
  | f + 1, p, acc =>
    match pStp ch true p with
    | (none, p1) => (none, p1)
    | (some s, p1) => if ch p1 = 44 then pBdy ch f (p1 + 1) (acc ++ [s]) else if ch p1 = 41 then (some (acc ++ [s]), p1 + 1) else (none, p1)
def pItm (ch : Nat → Int32) (p : Nat) : Option (Nat × List TS) × Nat :=
  if isD (ch p) then
    match pNum ch 1 99 p with
    | (none, p1) => (none, p1)
    | (some T, p1) =>
      if T = 1 then (none, p1)
      else if ch p1 = 40 then
        match pBdy ch 60 (p1 + 1) [] with
        | (none, p2) => (none, p2)
        | (some b, p2) => (some (T, b), p2)
      else (none, p1)
  else
    match pStp ch false p with
    | (none, p1) => (none, p1)
    | (some s, p1) => (some (0, [s]), p1)
def pTxt (ch : Nat → Int32) (n : Nat) : Nat → Nat → List (Nat × List TS) → Option (List (Nat × List TS)) × Nat
  | 0, p, _ => (none, p)
  | f + 1, p, acc =>
    match pItm ch p with
    | (none, p1) => (none, p1)
    | (some i, p1) => if ch p1 = 59 then pTxt ch n f (p1 + 1) (acc ++ [i]) else if p1 = n then (some (acc ++ [i]), p1) else (none, p1)
def chF (t : Nat → Int32) (n p : Nat) : Int32 := if p < n then t p else 0
/-- places never pass the end -/
theorem pNum_le {ch : Nat → Int32} {n lo hi p : Nat} (h : ∀ j, n ≤ j → ch j = 0) (hp : p ≤ n) : (pNum ch lo hi p).2 ≤ n ∧ p ≤ (pNum ch lo hi p).2 ∧ ((pNum ch lo hi p).1 ≠ none → p < (pNum ch lo hi p).2) := by
  have hn : ∀ j, isD (ch j) → j < n := fun j hj => by
    rcases Nat.lt_or_ge j n with q | q
    · exact q
    · rw [h j q] at hj
      exact absurd hj (by decide)
  unfold pNum
  split
  · rename_i h1
    have := hn p h1.1
    split
    · rename_i h2
      have := hn (p + 1) h2.2.1
      exact ⟨by show p + 2 ≤ n; omega, by show p ≤ p + 2; omega, fun _ => by show p < p + 2; omega⟩
    · exact ⟨by show p + 1 ≤ n; omega, by show p ≤ p + 1; omega, fun _ => by show p < p + 1; omega⟩
  · exact ⟨hp, Nat.le_refl _, fun z => absurd rfl z⟩
theorem vB_lt {c : Int32} {v : Nat} (h : vB c = some v) : v ≤ 5 ∧ c ≠ 0 := by
  unfold vB at h
  repeat' split at h
  all_goals first | (cases h; refine ⟨by omega, ?_⟩; rename_i q; rw [q]; decide) | cases h
theorem pNum_hi {ch : Nat → Int32} {lo hi p x : Nat} (hh : 9 ≤ hi) (h : (pNum ch lo hi p).1 = some x) : x ≤ hi ∧ (lo = 0 ∨ 0 < x) := by
  unfold pNum at h
  split at h
  · rename_i h1
    have := dgN_lt h1.1
    split at h
    · rename_i h2
      cases h
      exact ⟨h2.2.2, Or.inr (by omega)⟩
    · cases h
      exact ⟨by omega, h1.2⟩
  · cases h
theorem gM_9 {v : Nat} : 9 ≤ gM v ∧ gM v ≤ 99 := by unfold gM; split <;> omega
theorem gN_gM {v : Nat} (h : v ≤ 5) : gN (nI v) = nI (gM v) := by
  rcases (show v = 0 ∨ v = 1 ∨ v = 2 ∨ v = 3 ∨ v = 4 ∨ v = 5 by omega) with rfl | rfl | rfl | rfl | rfl | rfl <;> rfl
/-- what a step of a text is -/
def tsOK (s : TS) : Prop := s.1 ≤ 5 ∧ s.2.1 ≤ gM s.1
theorem pStp_ok {ch : Nat → Int32} {n p : Nat} {hs : Bool} (h : ∀ j, n ≤ j → ch j = 0) (hp : p ≤ n) : (pStp ch hs p).2 ≤ n ∧ p ≤ (pStp ch hs p).2 ∧ ∀ s, (pStp ch hs p).1 = some s → p + 2 ≤ (pStp ch hs p).2 ∧ tsOK s := by
  unfold pStp
  cases hv : vB (ch p) with
  | none => exact ⟨hp, Nat.le_refl _, fun s hs => by cases hs⟩
  | some v =>
    obtain ⟨hv5, hv0⟩ := vB_lt hv
    have hpn : p < n := by
      rcases Nat.lt_or_ge p n with q | q
      · exact q
      · exact absurd (h p q) hv0
    have h1 := pNum_le (lo := 0) (hi := gM v) h (show p + 1 ≤ n by omega)
    have h1x : ∀ x, (pNum ch 0 (gM v) (p + 1)).1 = some x → x ≤ gM v ∧ (0 = 0 ∨ 0 < x) := fun x => pNum_hi gM_9.1
    simp only
    generalize pNum ch 0 (gM v) (p + 1) = r at h1 h1x
    obtain ⟨x, p1⟩ := r
    cases x with
    | none => exact ⟨h1.1, by have := h1.2.1; simp only at this ⊢; omega, fun s hs => by cases hs⟩
    | some x =>
      have hx := (h1x x rfl).1
      have h11 := h1.1
      have h12 := h1.2.2 (by simp)
      simp only at h11 h12 ⊢
      by_cases hc : hs = true ∧ (ch p1 = 43 ∨ ch p1 = 45)
      · rw [if_pos hc]
        have hp1 : p1 < n := by
          rcases Nat.lt_or_ge p1 n with q | q
          · exact q
          · have h0 := h p1 q
            rcases hc.2 with z | z <;> (rw [h0] at z; exact absurd z (by decide))
        have h2 := pNum_le (lo := 1) (hi := 99) h (show p1 + 1 ≤ n by omega)
        generalize pNum ch 1 99 (p1 + 1) = r2 at h2
        obtain ⟨y, p2⟩ := r2
        have h21 := h2.1
        have h22 := h2.2.1
        simp only at h21 h22
        cases y with
        | none => exact ⟨h21, by show p ≤ p2; omega, fun s hs => by cases hs⟩
        | some y => exact ⟨h21, by show p ≤ p2; omega, fun s hs => by cases hs; exact ⟨by show p + 2 ≤ p2; omega, hv5, hx⟩⟩
      · rw [if_neg hc]
        exact ⟨h11, by show p ≤ p1; omega, fun s hs => by cases hs; exact ⟨by show p + 2 ≤ p1; omega, hv5, hx⟩⟩
theorem vB_none {ch : Nat → Int32} {n p : Nat} (h : ∀ j, n ≤ j → ch j = 0) (hc : ch p ≠ 0) : p < n := by
  rcases Nat.lt_or_ge p n with q | q
  · exact q
  · exact absurd (h p q) hc
theorem chF_0 {t : Nat → Int32} {n : Nat} : ∀ j, n ≤ j → chF t n j = 0 := fun j hj => by unfold chF; rw [if_neg (by omega)]
