/-! The law: cell, greatest, seen. -/
def cellV (C : CT) (x1 : Int32) : Int32 := if isIx x1 30 then C 3 x1.toInt.toNat else -1
def s1 (f : Nat → Int32) : Nat → Nat → Int64 → Int64
  | 0, _, h => h
  | m + 1, k, h => s1 f m (k + 1) (31 * h + (f k).toInt64)
def s3i (f g : Nat → Int32) : Nat → Nat → Int64 → Int64
  | 0, _, h => h
  | m + 1, k, h => s3i f g m (k + 1) (31 * (31 * h + (f k).toInt64) + (g k).toInt64)
def s3 (f g : Nat → Nat → Int32) : Nat → Nat → Int64 → Int64
  | 0, _, h => h
  | m + 1, n, h => s3 f g m (n + 1) (s3i (f n) (g n) 12 0 h)
def s4i (f g e : Nat → Int32) : Nat → Nat → Int64 → Int64
  | 0, _, h => h
  | m + 1, k, h => s4i f g e m (k + 1) (31 * (31 * (31 * h + (f k).toInt64) + (g k).toInt64) + (e k).toInt64)
def s4 (p : Nat → Int32) (cn : Nat → Nat) (f g e : Nat → Nat → Int32) : Nat → Nat → Int64 → Int64
  | 0, _, h => h
  | m + 1, n, h => s4 p cn f g e m (n + 1) (s4i (f n) (g n) (e n) (cn n) 0 (31 * h + (p n).toInt64))
def lcn (lc : Nat) (ll : Nat → Nat) (n : Nat) : Nat := if n < lc then ll n else 0
/-- all that belongs to a state, as one number -/
def seenF (C : CT) (tc op lc : Nat) (tl ll : Nat → Nat) : Int64 :=
  s4 (fun n => leF C tc lc (nI n) 2) (lcn lc ll) (fun n k => oLF C lc ll (nI n) (nI k) 0) (fun n k => oLF C lc ll (nI n) (nI k) 1) (fun n k => oLF C lc ll (nI n) (nI k) 2) 6 0
    (s3 (fun n k => oTF C (tc + op) tl (nI n) (nI k) 0) (fun n k => oTF C (tc + op) tl (nI n) (nI k) 1) 7 0
      (s1 (fun k => totC C tl tc k) 10 0 (s1 (fun k => cellV C (nI k)) 30 0 149)))
def Rql (G : GT) (a : Nat) (C : CT) (v : Int64) : Option Value → Hp → Prop := fun r h' => ∃ D, r = some (.long v) ∧ h' = B G a D ∧ SC C D
theorem s1_cg {f f' : Nat → Int32} : ∀ (m k : Nat) (h : Int64), (∀ j, k ≤ j → j < k + m → f j = f' j) → s1 f m k h = s1 f' m k h := by
  intro m
  induction m with
  | zero => intro k h _; rfl
  | succ m ih =>
    intro k h e
    show s1 f m (k + 1) _ = s1 f' m (k + 1) _
    rw [e k (by omega) (by omega)]
    exact ih _ _ (fun j a b => e j (by omega) (by omega))
theorem s3i_cg {f f' g g' : Nat → Int32} : ∀ (m k : Nat) (h : Int64), (∀ j, k ≤ j → j < k + m → f j = f' j ∧ g j = g' j) → s3i f g m k h = s3i f' g' m k h := by
  intro m
  induction m with
  | zero => intro k h _; rfl
  | succ m ih =>
    intro k h e
    show s3i f g m (k + 1) _ = s3i f' g' m (k + 1) _
    rw [(e k (by omega) (by omega)).1, (e k (by omega) (by omega)).2]
    exact ih _ _ (fun j a b => e j (by omega) (by omega))
theorem s3_cg {f f' g g' : Nat → Nat → Int32} : ∀ (m n : Nat) (h : Int64), (∀ i, n ≤ i → i < n + m → ∀ j, j < 12 → f i j = f' i j ∧ g i j = g' i j) → s3 f g m n h = s3 f' g' m n h := by
  intro m
  induction m with
  | zero => intro k h _; rfl
  | succ m ih =>
    intro n h e
    show s3 f g m (n + 1) _ = s3 f' g' m (n + 1) _
    rw [s3i_cg 12 0 h (fun j _ b => e n (by omega) (by omega) j (by omega))]
    exact ih _ _ (fun j a b => e j (by omega) (by omega))
theorem s4i_cg {f f' g g' e e' : Nat → Int32} : ∀ (m k : Nat) (h : Int64), (∀ j, k ≤ j → j < k + m → f j = f' j ∧ g j = g' j ∧ e j = e' j) → s4i f g e m k h = s4i f' g' e' m k h := by
  intro m
  induction m with
  | zero => intro k h _; rfl
  | succ m ih =>
    intro k h q
    show s4i f g e m (k + 1) _ = s4i f' g' e' m (k + 1) _
    rw [(q k (by omega) (by omega)).1, (q k (by omega) (by omega)).2.1, (q k (by omega) (by omega)).2.2]
    exact ih _ _ (fun j a b => q j (by omega) (by omega))
theorem s4_cg {p p' : Nat → Int32} {cn : Nat → Nat} {f f' g g' e e' : Nat → Nat → Int32} : ∀ (m n : Nat) (h : Int64), (∀ i, n ≤ i → i < n + m → p i = p' i ∧ ∀ j, j < cn i → f i j = f' i j ∧ g i j = g' i j ∧ e i j = e' i j) → s4 p cn f g e m n h = s4 p' cn f' g' e' m n h := by
  intro m
  induction m with
  | zero => intro k h _; rfl
  | succ m ih =>
    intro n h q
    show s4 p cn f g e m (n + 1) _ = s4 p' cn f' g' e' m (n + 1) _
    rw [(q n (by omega) (by omega)).1, s4i_cg (cn n) 0 _ (fun j _ b => (q n (by omega) (by omega)).2 j (by omega))]
    exact ih _ _ (fun j a b => q j (by omega) (by omega))
theorem rowsN_cg {lk lk' : Nat → Nat → Bool} : ∀ n, (∀ i m, i < n → m < i → lk i m = lk' i m) → rowsN lk n = rowsN lk' n := by
  intro n
  induction n with
  | zero => intro _; rfl
  | succ n ih =>
    intro h
    show rowsN lk n + bI (∀ m, m < n → lk n m = false) = rowsN lk' n + bI (∀ m, m < n → lk' n m = false)
    rw [ih (fun i m a b => h i m (by omega) b)]
    congr 1
    by_cases hc : ∀ m, m < n → lk n m = false
    · rw [bI_t hc, bI_t (fun m hm => by rw [← h n m (by omega) hm]; exact hc m hm)]
    · rw [bI_f hc, bI_f (fun z => hc (fun m hm => by rw [h n m (by omega) hm]; exact z m hm))]
theorem nTN {n : Nat} (h : n < 2147483648) : (nI n).toInt.toNat = n := by rw [nI_toInt h]; rfl
/-- alike states are seen alike -/
theorem seenF_cg {C C' : CT} {hd tc op lc : Nat} {tl ll lt : Nat → Nat} (h : BE (bk C 1) (bk C' 1)) (hI : Inv (bk C 1) hd tc op lc tl ll lt) : seenF C' tc op lc tl ll = seenF C tc op lc tl ll := by
  obtain ⟨⟨i1, i2, i3⟩, ⟨t1, t2, t3, t4, t5, t6⟩, l1, l2, l3⟩ := hI
  have e1 : ∀ j, j < 5 → C' 1 j = C 1 j := fun j hj => h 0 (by decide) j hj
  have e2 : C' 2 0 = C 2 0 := h 1 (by decide) 0 (by decide)
  have e3 : ∀ j, j < 30 → C' 3 j = C 3 j := fun j hj => h 2 (by decide) j hj
  have e4 : C' 4 0 = C 4 0 := h 3 (by decide) 0 (by decide)
  have e5 : ∀ j, j < 72 → C' 5 j = C 5 j := fun j hj => h 4 (by decide) j hj
  have e6 : ∀ j, j < 72 → C' 6 j = C 6 j := fun j hj => h 5 (by decide) j hj
  have e8 : ∀ j, j < 6 → C' 8 j = C 8 j := fun j hj => h 7 (by decide) j hj
  have e10 : C' 10 0 = C 10 0 := h 9 (by decide) 0 (by decide)
  have e11 : ∀ j, j < 72 → C' 11 j = C 11 j := fun j hj => h 10 (by decide) j hj
  have e12 : ∀ j, j < 72 → C' 12 j = C 12 j := fun j hj => h 11 (by decide) j hj
  have e13 : ∀ j, j < 72 → C' 13 j = C 13 j := fun j hj => h 12 (by decide) j hj
  have e15 : ∀ j, j < 6 → C' 15 j = C 15 j := fun j hj => h 14 (by decide) j hj
  unfold seenF
  have q1 : s1 (fun k => cellV C' (nI k)) 30 0 149 = s1 (fun k => cellV C (nI k)) 30 0 149 := s1_cg 30 0 149 (fun j _ hj => by
    show cellV C' (nI j) = cellV C (nI j)
    unfold cellV
    rw [nTN (by omega), e3 j (by omega)])
  have q2 : ∀ hh, s1 (fun k => totC C' tl tc k) 10 0 hh = s1 (fun k => totC C tl tc k) 10 0 hh := fun hh => s1_cg 10 0 hh (fun w _ hw => by
    show totC C' tl tc w = totC C tl tc w
    have r9 : rowsN (lkC C' tl) tc = rowsN (lkC C tl) tc := rowsN_cg tc (fun i m hi hm => by
      unfold lkC
      rw [decide_eq_decide]
      have ti := (t5 i (by omega)).2.1
      have tm := (t5 m (by omega)).2.1
      constructor
      · rintro ⟨z1, z2⟩
        exact ⟨z1, fun k hk => by rw [← e5 _ (by omega), ← e5 _ (by omega)]; exact z2 k hk⟩
      · rintro ⟨z1, z2⟩
        exact ⟨z1, fun k hk => by rw [e5 _ (by omega), e5 _ (by omega)]; exact z2 k hk⟩)
    unfold totC
    rw [e2, e4, e10, r9, sumF_cg e3, e1 0 (by decide)]
    by_cases w0 : w = 0
    · rw [if_pos w0, if_pos w0]
    rw [if_neg w0, if_neg w0]
    by_cases w1 : w = 1
    · rw [if_pos w1, if_pos w1]
    rw [if_neg w1, if_neg w1]
    by_cases w2 : w = 2
    · rw [if_pos w2, if_pos w2]
    rw [if_neg w2, if_neg w2]
    by_cases w3 : w = 3
    · rw [if_pos w3, if_pos w3]
      by_cases ho : C 1 0 = 1
      · have : tc < 6 := by
          rcases t4 with t4 | ⟨-, t4⟩
          · subst t4
            have t3' : C 1 0 = nI 0 := t3
            rw [t3'] at ho
            exact absurd ho (by decide)
          · exact t4
        rw [if_pos ho, if_pos ho, e8 tc this]
      · rw [if_neg ho, if_neg ho]
    rw [if_neg w3, if_neg w3]
    by_cases w4 : w = 4
    · rw [if_pos w4, if_pos w4]
    rw [if_neg w4, if_neg w4]
    by_cases w9 : w < 9
    · rw [if_pos w9, if_pos w9, e1 (w - 4) (by omega)]
    · rw [if_neg w9, if_neg w9, if_pos (show w = 9 by omega), if_pos (show w = 9 by omega)])
  have q3 : ∀ hh, s3 (fun n k => oTF C' (tc + op) tl (nI n) (nI k) 0) (fun n k => oTF C' (tc + op) tl (nI n) (nI k) 1) 7 0 hh = s3 (fun n k => oTF C (tc + op) tl (nI n) (nI k) 0) (fun n k => oTF C (tc + op) tl (nI n) (nI k) 1) 7 0 hh := fun hh => s3_cg 7 0 hh (fun i _ hi j hj => by
    have key : ∀ w : Int32, oTF C' (tc + op) tl (nI i) (nI j) w = oTF C (tc + op) tl (nI i) (nI j) w := by
      intro w
      unfold oTF
      rw [nTN (n := i) (by omega), nTN (n := j) (by omega)]
      by_cases hx : isIx (nI i) (tc + op)
      · rw [if_pos hx, if_pos hx]
        have hx2 := (isIx_n hx).2
        rw [nTN (by omega)] at hx2
        rw [e5 _ (by omega), e6 _ (by omega)]
      · rw [if_neg hx, if_neg hx]
    exact ⟨key 0, key 1⟩)
  rw [q1, q2, q3]
  refine s4_cg 6 0 _ (fun i _ hi => ⟨?_, fun j hj => ?_⟩)
  · show leF C' tc lc (nI i) 2 = leF C tc lc (nI i) 2
    unfold leF
    rw [nTN (by omega), e15 i (by omega), if_neg (show ¬ (2 : Int32) = 0 by decide), if_neg (show ¬ (2 : Int32) = 0 by decide), if_neg (show ¬ (2 : Int32) = 1 by decide), if_neg (show ¬ (2 : Int32) = 1 by decide)]
  · have key : ∀ w : Int32, w = 0 ∨ w = 1 ∨ w = 2 → oLF C' lc ll (nI i) (nI j) w = oLF C lc ll (nI i) (nI j) w := by
      intro w hw
      unfold lcn at hj
      by_cases hil : i < lc
      · rw [if_pos hil] at hj
        have := (l3 i hil).2.2.1
        unfold oLF
        rw [nTN (n := i) (by omega), nTN (n := j) (by omega), e11 _ (by omega), e12 _ (by omega), e13 _ (by omega), e15 i (by omega)]
      · rw [if_neg hil] at hj
        omega
    exact ⟨key 0 (Or.inl rfl), key 1 (Or.inr (Or.inl rfl)), key 2 (Or.inr (Or.inr rfl))⟩
section LAW
variable {G : GT} {l : Launch} {sz a st hd tc op lc : Nat} {tl ll lt : Nat → Nat} {C D : CT} {h : Hp}
theorem tL_greatest (v : Int32) : Ct G l yL_greatest cL_greatest 1 (some .int) 0 0 0 sz [.int v] h (Rd (.int (gN v)) h) := by
  refine Ct.of (own := RL) (mn := "greatest") (L0 := [some (.int v)]) (by decide +kernel) rfl rfl rfl (Nat.le_of_ble_eq_true rfl) rfl ?_
  refine V_iload_n dL_greatest_0 rfl ?_
  by_cases h0 : v = 0
  · refine V_if_eq dL_greatest_1 (fun _ => ?_) (fun z => absurd h0 z)
    refine V_bipush (v := 29) dL_greatest_14 (by decide) ?_
    refine V_goto dL_greatest_16 ?_
    refine V_iret dL_greatest_21 rfl rfl rfl ?_
    exact Rd_i (by rw [h0]; rfl)
  · refine V_if_eq dL_greatest_1 (fun z => absurd z h0) (fun _ => ?_)
    refine V_iload_n dL_greatest_4 rfl ?_
    refine V_iconst (v := 3) dL_greatest_5 (by decide) ?_
    by_cases h3 : v = 3
    · refine V_icmp_eq dL_greatest_6 (fun _ => ?_) (fun z => absurd h3 z)
      refine V_bipush (v := 29) dL_greatest_14 (by decide) ?_
      refine V_goto dL_greatest_16 ?_
      refine V_iret dL_greatest_21 rfl rfl rfl ?_
      exact Rd_i (by rw [h3]; rfl)
    · refine V_icmp_eq dL_greatest_6 (fun z => absurd z h3) (fun _ => ?_)
      refine V_iload_n dL_greatest_9 rfl ?_
      refine V_iconst (v := 4) dL_greatest_10 (by decide) ?_
      by_cases h4 : v = 4
      · refine V_icmp_ne dL_greatest_11 (fun z => absurd z (fun z => z h4)) (fun _ => ?_)
        refine V_bipush (v := 29) dL_greatest_14 (by decide) ?_
        refine V_goto dL_greatest_16 ?_
        refine V_iret dL_greatest_21 rfl rfl rfl ?_
        exact Rd_i (by rw [h4]; rfl)
      · refine V_icmp_ne dL_greatest_11 (fun _ => ?_) (fun z => absurd z h4)
        refine V_bipush (v := 99) dL_greatest_19 (by decide) ?_
        refine V_iret dL_greatest_21 rfl rfl rfl ?_
        exact Rd_i (by unfold gN; rw [if_neg (by rintro (z | z | z); exact h0 z; exact h3 z; exact h4 z)])
set_option maxHeartbeats 4000000 in
theorem tL_seen (hI : Inv (bk C 1) hd tc op lc tl ll lt) (hD : SC C D) : Ct G l yL_seen cL_seen 5 (some .long) 5 0 0 sz [.ref a] (B G a D) (Rql G a C (seenF C tc op lc tl ll)) := by
  obtain ⟨l1, l2, l3⟩ := hI.2.2
  have k4 : ∀ (m n : Nat) (x4 : Option Value) (h : Int64) (D : CT), SC C D → n + m = 6 → s4 (fun n => leF C tc lc (nI n) 2) (lcn lc ll) (fun n k => oLF C lc ll (nI n) (nI k) 0) (fun n k => oLF C lc ll (nI n) (nI k) 1) (fun n k => oLF C lc ll (nI n) (nI k) 2) m n h = seenF C tc op lc tl ll → V G l RL "seen" cL_seen 5 (some .long) (rmd 5 0 0) E0 (Qm G (Rql G a C (seenF C tc op lc tl ll)) sz 0 0) sz 0 0 120 [some (.ref a), some (.long h), none, some (.int (nI n)), x4] [] (B G a D) := by
    intro m
    induction m with
    | zero =>
      intro n x4 h D hD hn hs
      refine V_iload_n dL_seen_120 rfl ?_
      refine V_bipush (v := 6) dL_seen_121 (by decide) ?_
      refine V_icmp_ge dL_seen_123 (fun _ => ?_) (fun z => absurd ((cle (by repeat (first | with_reducible rfl | with_reducible exact nlit | with_reducible apply nadd | with_reducible apply nmul | with_reducible apply nsub | with_reducible assumption | omega)) (by repeat (first | with_reducible rfl | with_reducible exact nlit | with_reducible apply nadd | with_reducible apply nmul | with_reducible apply nsub | with_reducible assumption | omega)) (by omega) (by omega)).mpr (by omega)) z)
      refine V_lload_n dL_seen_210 rfl ?_
      refine V_jret dL_seen_211 rfl rfl rfl ?_
      exact ⟨D, by rw [← hs]; rfl, rfl, hD⟩
    | succ m ih =>
      intro n x4 h D hD hn hs
      refine V_iload_n dL_seen_120 rfl ?_
      refine V_bipush (v := 6) dL_seen_121 (by decide) ?_
      refine V_icmp_ge dL_seen_123 (fun z => absurd z (fun z => absurd ((cle (by repeat (first | with_reducible rfl | with_reducible exact nlit | with_reducible apply nadd | with_reducible apply nmul | with_reducible apply nsub | with_reducible assumption | omega)) (by repeat (first | with_reducible rfl | with_reducible exact nlit | with_reducible apply nadd | with_reducible apply nmul | with_reducible apply nsub | with_reducible assumption | omega)) (by omega) (by omega)).mp z) (by omega))) (fun _ => ?_)
      refine V_ldc2 (v := 31) dL_seen_126 (gm 312 (by decide +kernel) rfl) ?_
      refine V_lload_n dL_seen_129 rfl ?_
      refine V_lmul dL_seen_130 ?_
      refine V_aload_n dL_seen_131 rfl ?_
      refine V_iload_n dL_seen_132 rfl ?_
      refine V_iconst (v := 2) dL_seen_133 (by decide) ?_
      refine V_rq dL_seen_134 kL_27 ykX6_length rfl (q_length _ _ hI hD) rfl (Nat.le_of_ble_eq_true rfl) ⟨by decide, by decide, by decide, by decide⟩ (fun D hD => ?_)
      refine V_i2l dL_seen_137 rfl ?_
      refine V_ladd dL_seen_138 ?_
      refine V_lstore_n dL_seen_139 (by decide) (by dsimp only [List.set] <;> rfl) rfl ?_
      refine V_iconst (v := 0) dL_seen_140 (by decide) ?_
      refine V_istore dL_seen_141 (by decide) (by dsimp only [List.set] <;> rfl) rfl ?_
      have hlen : leF C tc lc (nI n) 1 = if n < lc then nI (ll n) else -1 := by
        unfold leF
        rw [if_neg (by decide), if_pos rfl, nTN (by omega)]
        by_cases hnl : n < lc
        · rw [if_pos hnl, if_pos (isIx_nI hnl (by omega))]
          exact (l3 n hnl).1
        · rw [if_neg hnl, if_neg (fun z => hnl (by have := (isIx_n z).2; rw [nTN (by omega)] at this; exact this))]
      have k5 : ∀ (q k : Nat) (h : Int64) (D : CT), SC C D → k + q = lcn lc ll n → s4 (fun n => leF C tc lc (nI n) 2) (lcn lc ll) (fun n k => oLF C lc ll (nI n) (nI k) 0) (fun n k => oLF C lc ll (nI n) (nI k) 1) (fun n k => oLF C lc ll (nI n) (nI k) 2) m (n + 1) (s4i (fun k => oLF C lc ll (nI n) (nI k) 0) (fun k => oLF C lc ll (nI n) (nI k) 1) (fun k => oLF C lc ll (nI n) (nI k) 2) q k h) = seenF C tc op lc tl ll → V G l RL "seen" cL_seen 5 (some .long) (rmd 5 0 0) E0 (Qm G (Rql G a C (seenF C tc op lc tl ll)) sz 0 0) sz 0 0 143 [some (.ref a), some (.long h), none, some (.int (nI n)), some (.int (nI k))] [] (B G a D) := by
        intro q
        induction q with
        | zero =>
          intro k h D hD hk hs
          refine V_iload dL_seen_143 rfl ?_
          refine V_aload_n dL_seen_145 rfl ?_
          refine V_iload_n dL_seen_146 rfl ?_
          refine V_iconst (v := 1) dL_seen_147 (by decide) ?_
          refine V_rq dL_seen_148 kL_27 ykX6_length rfl (q_length _ _ hI hD) rfl (Nat.le_of_ble_eq_true rfl) ⟨by decide, by decide, by decide, by decide⟩ (fun D hD => ?_)
          rw [hlen]
          have hc : (if n < lc then nI (ll n) else -1) ≤ nI k := by
            unfold lcn at hk
            by_cases hnl : n < lc
            · rw [if_pos hnl] at hk ⊢
              have := (l3 n hnl).2.2.1
              exact (nle (by omega) (by omega)).mpr (by omega)
            · rw [if_neg hnl] at hk ⊢
              obtain rfl : k = 0 := by omega
              decide
          refine V_icmp_ge dL_seen_151 (fun _ => ?_) (fun z => absurd hc z)
          refine V_iinc dL_seen_204 rfl (ninc _) (by decide) (by dsimp only [List.set] <;> rfl) ?_
          refine V_goto dL_seen_207 ?_
          exact ih (n + 1) _ h D hD (by omega) hs
        | succ q ihq =>
          intro k h D hD hk hs
          refine V_iload dL_seen_143 rfl ?_
          refine V_aload_n dL_seen_145 rfl ?_
          refine V_iload_n dL_seen_146 rfl ?_
          refine V_iconst (v := 1) dL_seen_147 (by decide) ?_
          refine V_rq dL_seen_148 kL_27 ykX6_length rfl (q_length _ _ hI hD) rfl (Nat.le_of_ble_eq_true rfl) ⟨by decide, by decide, by decide, by decide⟩ (fun D hD => ?_)
          rw [hlen]
          have hnl : n < lc := by
            unfold lcn at hk
            by_cases hnl : n < lc
            · exact hnl
            · rw [if_neg hnl] at hk; omega
          have hll := (l3 n hnl).2.2.1
          have hk' : k + (q + 1) = ll n := by
            unfold lcn at hk
            rw [if_pos hnl] at hk
            exact hk
          rw [if_pos hnl]
          refine V_icmp_ge dL_seen_151 (fun z => absurd z (fun z => absurd ((cle (by repeat (first | with_reducible rfl | with_reducible exact nlit | with_reducible apply nadd | with_reducible apply nmul | with_reducible apply nsub | with_reducible assumption | omega)) (by repeat (first | with_reducible rfl | with_reducible exact nlit | with_reducible apply nadd | with_reducible apply nmul | with_reducible apply nsub | with_reducible assumption | omega)) (by omega) (by omega)).mp z) (by omega))) (fun _ => ?_)
          refine V_ldc2 (v := 31) dL_seen_154 (gm 312 (by decide +kernel) rfl) ?_
          refine V_ldc2 (v := 31) dL_seen_157 (gm 312 (by decide +kernel) rfl) ?_
          refine V_ldc2 (v := 31) dL_seen_160 (gm 312 (by decide +kernel) rfl) ?_
          refine V_lload_n dL_seen_163 rfl ?_
          refine V_lmul dL_seen_164 ?_
          refine V_aload_n dL_seen_165 rfl ?_
          refine V_iload_n dL_seen_166 rfl ?_
          refine V_iload dL_seen_167 rfl ?_
          refine V_iconst (v := 0) dL_seen_169 (by decide) ?_
          refine V_rq dL_seen_170 kL_31 ykX6_ofLoop rfl (q_ofLoop _ _ _ hI hD) rfl (Nat.le_of_ble_eq_true rfl) ⟨by decide, by decide, by decide, by decide⟩ (fun D hD => ?_)
          refine V_i2l dL_seen_173 rfl ?_
          refine V_ladd dL_seen_174 ?_
          refine V_lmul dL_seen_175 ?_
          refine V_aload_n dL_seen_176 rfl ?_
          refine V_iload_n dL_seen_177 rfl ?_
          refine V_iload dL_seen_178 rfl ?_
          refine V_iconst (v := 1) dL_seen_180 (by decide) ?_
          refine V_rq dL_seen_181 kL_31 ykX6_ofLoop rfl (q_ofLoop _ _ _ hI hD) rfl (Nat.le_of_ble_eq_true rfl) ⟨by decide, by decide, by decide, by decide⟩ (fun D hD => ?_)
          refine V_i2l dL_seen_184 rfl ?_
          refine V_ladd dL_seen_185 ?_
          refine V_lmul dL_seen_186 ?_
          refine V_aload_n dL_seen_187 rfl ?_
          refine V_iload_n dL_seen_188 rfl ?_
          refine V_iload dL_seen_189 rfl ?_
          refine V_iconst (v := 2) dL_seen_191 (by decide) ?_
          refine V_rq dL_seen_192 kL_31 ykX6_ofLoop rfl (q_ofLoop _ _ _ hI hD) rfl (Nat.le_of_ble_eq_true rfl) ⟨by decide, by decide, by decide, by decide⟩ (fun D hD => ?_)
          refine V_i2l dL_seen_195 rfl ?_
          refine V_ladd dL_seen_196 ?_
          refine V_lstore_n dL_seen_197 (by decide) (by dsimp only [List.set] <;> rfl) rfl ?_
          refine V_iinc dL_seen_198 rfl (ninc _) (by decide) (by dsimp only [List.set] <;> rfl) ?_
          refine V_goto dL_seen_201 ?_
          exact ihq (k + 1) _ D hD (by omega) hs
      exact k5 (lcn lc ll n) 0 _ D hD (by omega) hs
  have k3 : ∀ (m n : Nat) (x4 : Option Value) (h : Int64) (D : CT), SC C D → n + m = 7 → s4 (fun n => leF C tc lc (nI n) 2) (lcn lc ll) (fun n k => oLF C lc ll (nI n) (nI k) 0) (fun n k => oLF C lc ll (nI n) (nI k) 1) (fun n k => oLF C lc ll (nI n) (nI k) 2) 6 0 (s3 (fun n k => oTF C (tc + op) tl (nI n) (nI k) 0) (fun n k => oTF C (tc + op) tl (nI n) (nI k) 1) m n h) = seenF C tc op lc tl ll → V G l RL "seen" cL_seen 5 (some .long) (rmd 5 0 0) E0 (Qm G (Rql G a C (seenF C tc op lc tl ll)) sz 0 0) sz 0 0 60 [some (.ref a), some (.long h), none, some (.int (nI n)), x4] [] (B G a D) := by
    intro m
    induction m with
    | zero =>
      intro n x4 h D hD hn hs
      refine V_iload_n dL_seen_60 rfl ?_
      refine V_bipush (v := 7) dL_seen_61 (by decide) ?_
      refine V_icmp_ge dL_seen_63 (fun _ => ?_) (fun z => absurd ((cle (by repeat (first | with_reducible rfl | with_reducible exact nlit | with_reducible apply nadd | with_reducible apply nmul | with_reducible apply nsub | with_reducible assumption | omega)) (by repeat (first | with_reducible rfl | with_reducible exact nlit | with_reducible apply nadd | with_reducible apply nmul | with_reducible apply nsub | with_reducible assumption | omega)) (by omega) (by omega)).mpr (by omega)) z)
      refine V_iconst (v := 0) dL_seen_118 (by decide) ?_
      refine V_istore_n dL_seen_119 (by decide) (by dsimp only [List.set] <;> rfl) rfl ?_
      exact k4 6 0 x4 h D hD rfl hs
    | succ m ih =>
      intro n x4 h D hD hn hs
      refine V_iload_n dL_seen_60 rfl ?_
      refine V_bipush (v := 7) dL_seen_61 (by decide) ?_
      refine V_icmp_ge dL_seen_63 (fun z => absurd z (fun z => absurd ((cle (by repeat (first | with_reducible rfl | with_reducible exact nlit | with_reducible apply nadd | with_reducible apply nmul | with_reducible apply nsub | with_reducible assumption | omega)) (by repeat (first | with_reducible rfl | with_reducible exact nlit | with_reducible apply nadd | with_reducible apply nmul | with_reducible apply nsub | with_reducible assumption | omega)) (by omega) (by omega)).mp z) (by omega))) (fun _ => ?_)
      refine V_iconst (v := 0) dL_seen_66 (by decide) ?_
      refine V_istore dL_seen_67 (by decide) (by dsimp only [List.set] <;> rfl) rfl ?_
      have k5 : ∀ (q k : Nat) (h : Int64) (D : CT), SC C D → k + q = 12 → s4 (fun n => leF C tc lc (nI n) 2) (lcn lc ll) (fun n k => oLF C lc ll (nI n) (nI k) 0) (fun n k => oLF C lc ll (nI n) (nI k) 1) (fun n k => oLF C lc ll (nI n) (nI k) 2) 6 0 (s3 (fun n k => oTF C (tc + op) tl (nI n) (nI k) 0) (fun n k => oTF C (tc + op) tl (nI n) (nI k) 1) m (n + 1) (s3i (fun k => oTF C (tc + op) tl (nI n) (nI k) 0) (fun k => oTF C (tc + op) tl (nI n) (nI k) 1) q k h)) = seenF C tc op lc tl ll → V G l RL "seen" cL_seen 5 (some .long) (rmd 5 0 0) E0 (Qm G (Rql G a C (seenF C tc op lc tl ll)) sz 0 0) sz 0 0 69 [some (.ref a), some (.long h), none, some (.int (nI n)), some (.int (nI k))] [] (B G a D) := by
        intro q
        induction q with
        | zero =>
          intro k h D hD hk hs
          refine V_iload dL_seen_69 rfl ?_
          refine V_bipush (v := 12) dL_seen_71 (by decide) ?_
          refine V_icmp_ge dL_seen_73 (fun _ => ?_) (fun z => absurd ((cle (by repeat (first | with_reducible rfl | with_reducible exact nlit | with_reducible apply nadd | with_reducible apply nmul | with_reducible apply nsub | with_reducible assumption | omega)) (by repeat (first | with_reducible rfl | with_reducible exact nlit | with_reducible apply nadd | with_reducible apply nmul | with_reducible apply nsub | with_reducible assumption | omega)) (by omega) (by omega)).mpr (by omega)) z)
          refine V_iinc dL_seen_112 rfl (ninc _) (by decide) (by dsimp only [List.set] <;> rfl) ?_
          refine V_goto dL_seen_115 ?_
          exact ih (n + 1) _ h D hD (by omega) hs
        | succ q ihq =>
          intro k h D hD hk hs
          refine V_iload dL_seen_69 rfl ?_
          refine V_bipush (v := 12) dL_seen_71 (by decide) ?_
          refine V_icmp_ge dL_seen_73 (fun z => absurd z (fun z => absurd ((cle (by repeat (first | with_reducible rfl | with_reducible exact nlit | with_reducible apply nadd | with_reducible apply nmul | with_reducible apply nsub | with_reducible assumption | omega)) (by repeat (first | with_reducible rfl | with_reducible exact nlit | with_reducible apply nadd | with_reducible apply nmul | with_reducible apply nsub | with_reducible assumption | omega)) (by omega) (by omega)).mp z) (by omega))) (fun _ => ?_)
          refine V_ldc2 (v := 31) dL_seen_76 (gm 312 (by decide +kernel) rfl) ?_
          refine V_ldc2 (v := 31) dL_seen_79 (gm 312 (by decide +kernel) rfl) ?_
          refine V_lload_n dL_seen_82 rfl ?_
          refine V_lmul dL_seen_83 ?_
          refine V_aload_n dL_seen_84 rfl ?_
          refine V_iload_n dL_seen_85 rfl ?_
          refine V_iload dL_seen_86 rfl ?_
          refine V_iconst (v := 0) dL_seen_88 (by decide) ?_
          refine V_rq dL_seen_89 kL_23 ykX6_ofTry rfl (q_ofTry _ _ _ hI hD) rfl (Nat.le_of_ble_eq_true rfl) ⟨by decide, by decide, by decide, by decide⟩ (fun D hD => ?_)
          refine V_i2l dL_seen_92 rfl ?_
          refine V_ladd dL_seen_93 ?_
          refine V_lmul dL_seen_94 ?_
          refine V_aload_n dL_seen_95 rfl ?_
          refine V_iload_n dL_seen_96 rfl ?_
          refine V_iload dL_seen_97 rfl ?_
          refine V_iconst (v := 1) dL_seen_99 (by decide) ?_
          refine V_rq dL_seen_100 kL_23 ykX6_ofTry rfl (q_ofTry _ _ _ hI hD) rfl (Nat.le_of_ble_eq_true rfl) ⟨by decide, by decide, by decide, by decide⟩ (fun D hD => ?_)
          refine V_i2l dL_seen_103 rfl ?_
          refine V_ladd dL_seen_104 ?_
          refine V_lstore_n dL_seen_105 (by decide) (by dsimp only [List.set] <;> rfl) rfl ?_
          refine V_iinc dL_seen_106 rfl (ninc _) (by decide) (by dsimp only [List.set] <;> rfl) ?_
          refine V_goto dL_seen_109 ?_
          exact ihq (k + 1) _ D hD (by omega) hs
      exact k5 12 0 h D hD rfl hs
  have k2 : ∀ (m n : Nat) (h : Int64) (D : CT), SC C D → n + m = 10 → s4 (fun n => leF C tc lc (nI n) 2) (lcn lc ll) (fun n k => oLF C lc ll (nI n) (nI k) 0) (fun n k => oLF C lc ll (nI n) (nI k) 1) (fun n k => oLF C lc ll (nI n) (nI k) 2) 6 0 (s3 (fun n k => oTF C (tc + op) tl (nI n) (nI k) 0) (fun n k => oTF C (tc + op) tl (nI n) (nI k) 1) 7 0 (s1 (fun k => totC C tl tc k) m n h)) = seenF C tc op lc tl ll → V G l RL "seen" cL_seen 5 (some .long) (rmd 5 0 0) E0 (Qm G (Rql G a C (seenF C tc op lc tl ll)) sz 0 0) sz 0 0 33 [some (.ref a), some (.long h), none, some (.int (nI n)), none] [] (B G a D) := by
    intro m
    induction m with
    | zero =>
      intro n h D hD hn hs
      refine V_iload_n dL_seen_33 rfl ?_
      refine V_bipush (v := 10) dL_seen_34 (by decide) ?_
      refine V_icmp_ge dL_seen_36 (fun _ => ?_) (fun z => absurd ((cle (by repeat (first | with_reducible rfl | with_reducible exact nlit | with_reducible apply nadd | with_reducible apply nmul | with_reducible apply nsub | with_reducible assumption | omega)) (by repeat (first | with_reducible rfl | with_reducible exact nlit | with_reducible apply nadd | with_reducible apply nmul | with_reducible apply nsub | with_reducible assumption | omega)) (by omega) (by omega)).mpr (by omega)) z)
      refine V_iconst (v := 0) dL_seen_58 (by decide) ?_
      refine V_istore_n dL_seen_59 (by decide) (by dsimp only [List.set] <;> rfl) rfl ?_
      exact k3 7 0 none h D hD rfl hs
    | succ m ih =>
      intro n h D hD hn hs
      refine V_iload_n dL_seen_33 rfl ?_
      refine V_bipush (v := 10) dL_seen_34 (by decide) ?_
      refine V_icmp_ge dL_seen_36 (fun z => absurd z (fun z => absurd ((cle (by repeat (first | with_reducible rfl | with_reducible exact nlit | with_reducible apply nadd | with_reducible apply nmul | with_reducible apply nsub | with_reducible assumption | omega)) (by repeat (first | with_reducible rfl | with_reducible exact nlit | with_reducible apply nadd | with_reducible apply nmul | with_reducible apply nsub | with_reducible assumption | omega)) (by omega) (by omega)).mp z) (by omega))) (fun _ => ?_)
      refine V_ldc2 (v := 31) dL_seen_39 (gm 312 (by decide +kernel) rfl) ?_
      refine V_lload_n dL_seen_42 rfl ?_
      refine V_lmul dL_seen_43 ?_
      refine V_aload_n dL_seen_44 rfl ?_
      refine V_iload_n dL_seen_45 rfl ?_
      refine V_rq dL_seen_46 kL_20 ykX6_total rfl (q_total (w := n) (by omega) hI hD) rfl (Nat.le_of_ble_eq_true rfl) ⟨by decide, by decide, by decide, by decide⟩ (fun D hD => ?_)
      refine V_i2l dL_seen_49 rfl ?_
      refine V_ladd dL_seen_50 ?_
      refine V_lstore_n dL_seen_51 (by decide) (by dsimp only [List.set] <;> rfl) rfl ?_
      refine V_iinc dL_seen_52 rfl (ninc _) (by decide) (by dsimp only [List.set] <;> rfl) ?_
      refine V_goto dL_seen_55 ?_
      exact ih (n + 1) _ D hD (by omega) hs
  have k1 : ∀ (m n : Nat) (h : Int64) (D : CT), SC C D → n + m = 30 → s4 (fun n => leF C tc lc (nI n) 2) (lcn lc ll) (fun n k => oLF C lc ll (nI n) (nI k) 0) (fun n k => oLF C lc ll (nI n) (nI k) 1) (fun n k => oLF C lc ll (nI n) (nI k) 2) 6 0 (s3 (fun n k => oTF C (tc + op) tl (nI n) (nI k) 0) (fun n k => oTF C (tc + op) tl (nI n) (nI k) 1) 7 0 (s1 (fun k => totC C tl tc k) 10 0 (s1 (fun k => cellV C (nI k)) m n h))) = seenF C tc op lc tl ll → V G l RL "seen" cL_seen 5 (some .long) (rmd 5 0 0) E0 (Qm G (Rql G a C (seenF C tc op lc tl ll)) sz 0 0) sz 0 0 6 [some (.ref a), some (.long h), none, some (.int (nI n)), none] [] (B G a D) := by
    intro m
    induction m with
    | zero =>
      intro n h D hD hn hs
      refine V_iload_n dL_seen_6 rfl ?_
      refine V_bipush (v := 30) dL_seen_7 (by decide) ?_
      refine V_icmp_ge dL_seen_9 (fun _ => ?_) (fun z => absurd ((cle (by repeat (first | with_reducible rfl | with_reducible exact nlit | with_reducible apply nadd | with_reducible apply nmul | with_reducible apply nsub | with_reducible assumption | omega)) (by repeat (first | with_reducible rfl | with_reducible exact nlit | with_reducible apply nadd | with_reducible apply nmul | with_reducible apply nsub | with_reducible assumption | omega)) (by omega) (by omega)).mpr (by omega)) z)
      refine V_iconst (v := 0) dL_seen_31 (by decide) ?_
      refine V_istore_n dL_seen_32 (by decide) (by dsimp only [List.set] <;> rfl) rfl ?_
      exact k2 10 0 h D hD rfl hs
    | succ m ih =>
      intro n h D hD hn hs
      refine V_iload_n dL_seen_6 rfl ?_
      refine V_bipush (v := 30) dL_seen_7 (by decide) ?_
      refine V_icmp_ge dL_seen_9 (fun z => absurd z (fun z => absurd ((cle (by repeat (first | with_reducible rfl | with_reducible exact nlit | with_reducible apply nadd | with_reducible apply nmul | with_reducible apply nsub | with_reducible assumption | omega)) (by repeat (first | with_reducible rfl | with_reducible exact nlit | with_reducible apply nadd | with_reducible apply nmul | with_reducible apply nsub | with_reducible assumption | omega)) (by omega) (by omega)).mp z) (by omega))) (fun _ => ?_)
      refine V_ldc2 (v := 31) dL_seen_12 (gm 312 (by decide +kernel) rfl) ?_
      refine V_lload_n dL_seen_15 rfl ?_
      refine V_lmul dL_seen_16 ?_
      refine V_aload_n dL_seen_17 rfl ?_
      refine V_iload_n dL_seen_18 rfl ?_
      refine V_rq dL_seen_19 kL_14 ykX6_cell rfl (q_cell _ hD) rfl (Nat.le_of_ble_eq_true rfl) ⟨by decide, by decide, by decide, by decide⟩ (fun D hD => ?_)
      refine V_i2l dL_seen_22 rfl ?_
      refine V_ladd dL_seen_23 ?_
      refine V_lstore_n dL_seen_24 (by decide) (by dsimp only [List.set] <;> rfl) rfl ?_
      refine V_iinc dL_seen_25 rfl (ninc _) (by decide) (by dsimp only [List.set] <;> rfl) ?_
      refine V_goto dL_seen_28 ?_
      exact ih (n + 1) _ D hD (by omega) hs
  refine Ct.of (own := RL) (mn := "seen") (L0 := [some (.ref a), none, none, none, none]) (by decide +kernel) rfl rfl rfl (Nat.le_of_ble_eq_true rfl) rfl ?_
  refine V_ldc2 (v := 149) dL_seen_0 (gm 311 (by decide +kernel) rfl) ?_
  refine V_lstore_n dL_seen_3 (by decide) (by dsimp only [List.set] <;> rfl) rfl ?_
  refine V_iconst (v := 0) dL_seen_4 (by decide) ?_
  refine V_istore_n dL_seen_5 (by decide) (by dsimp only [List.set] <;> rfl) rfl ?_
  exact k1 30 0 149 D hD rfl rfl
end LAW
