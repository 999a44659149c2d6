/-! Pure words: numbers in their range, plays. -/
theorem inR_ex {v x : Int32} (h : inR v x) : ∃ X g : Nat, x = nI X ∧ gN v = nI g ∧ X ≤ g ∧ (g = 29 ∨ g = 99) ∧ (g = 29 ↔ (v = 0 ∨ v = 3 ∨ v = 4)) := by
  obtain ⟨h1, h2⟩ := h
  rcases gN_29 (v := v) with ⟨g1, g2⟩ | ⟨g1, g2⟩
  · rw [g1] at h2
    obtain ⟨m, m1, m2⟩ := cl_ex (n := 29) (by decide) ⟨h1, h2⟩
    exact ⟨m, 29, m2, g1, m1, Or.inl rfl, ⟨fun _ => g2, fun _ => rfl⟩⟩
  · rw [g1] at h2
    obtain ⟨m, m1, m2⟩ := cl_ex (n := 99) (by decide) ⟨h1, h2⟩
    exact ⟨m, 99, m2, g1, m1, Or.inr rfl, ⟨fun z => by omega, fun z => absurd z g2⟩⟩
theorem inR_mk {v : Int32} {X g : Nat} (hg : gN v = nI g) (hg2 : g ≤ 99) (hX : X < 100000) : inR v (nI X) ↔ X ≤ g := by
  unfold inR
  rw [hg]
  constructor
  · rintro ⟨-, h⟩
    exact (nle (by omega) (by omega)).mp h
  · intro h
    exact ⟨(nle (a := 0) (by omega) (by omega)).mpr (by omega), (nle (by omega) (by omega)).mpr h⟩
theorem strI_ex {t : Int32} (h : strI t) (h0 : t ≠ 0) : (∃ s : Nat, 1 ≤ s ∧ s ≤ 99 ∧ t = nI s ∧ 0 < t) ∨ (∃ s : Nat, 1 ≤ s ∧ s ≤ 99 ∧ -t = nI s ∧ t = -(nI s) ∧ ¬ 0 < t) := by
  obtain ⟨h1, h2⟩ := h
  have hne : t.toInt ≠ 0 := fun z => h0 (Int32.toInt_inj.mp (by rw [z]; rfl))
  have z0 : (0 : Int32).toInt = 0 := rfl
  by_cases hp : 0 < t.toInt
  · refine Or.inl ⟨t.toInt.toNat, by omega, by omega, nI_ex (by omega), ?_⟩
    rw [i_lt, z0]
    exact hp
  · have e : (-t).toInt = -t.toInt := by
      rw [Int32.toInt_neg]
      exact Int.bmod_eq_of_le (by omega) (by omega)
    have e2 : -t = nI (-t).toInt.toNat := nI_ex (by omega)
    refine Or.inr ⟨(-t).toInt.toNat, by omega, by omega, e2, ?_, ?_⟩
    · rw [← e2, Int32.neg_neg]
    · rw [i_lt, z0]
      exact hp
/-- how many turns a number stays in its range -/
theorem mtU_ex {v x t : Int32} (hx : inR v x) (ht : strI t) (h0 : t ≠ 0) : ∃ q : Nat, q ≤ 99 ∧ mtU v x t = nI (q + 1) ∧ ∀ T : Nat, T ≤ 200 → (inR v (x + nI T * t) ↔ T ≤ q) := by
  obtain ⟨X, g, rfl, hg, hX, hg2, -⟩ := inR_ex hx
  have hg9 : g ≤ 99 := by omega
  rcases strI_ex ht h0 with ⟨s, s1, s2, rfl, s4⟩ | ⟨s, s1, s2, s3, s4, s5⟩
  · have hd : (g - X) / s ≤ 99 := Nat.le_trans (Nat.div_le_self _ _) (by omega)
    refine ⟨(g - X) / s, hd, ?_, fun T hT => ?_⟩
    · unfold mtU
      rw [if_neg h0, if_pos s4, hg, pk_sub hX, pk_div (by omega) (by omega) (by omega), show (1 : Int32) = nI 1 from rfl, nI_add]
      exact congrArg nI (by omega)
    · have hm : T * s ≤ 200 * 99 := Nat.mul_le_mul hT s2
      rw [pk_mul, nI_add, inR_mk hg hg9 (by omega), Nat.le_div_iff_mul_le (by omega)]
      omega
  · have hd : X / s ≤ 99 := Nat.le_trans (Nat.div_le_self _ _) (by omega)
    refine ⟨X / s, hd, ?_, fun T hT => ?_⟩
    · unfold mtU
      rw [if_neg h0, if_neg s5, s3, pk_div (by omega) (by omega) (by omega), show (1 : Int32) = nI 1 from rfl, nI_add]
      exact congrArg nI (by omega)
    · have hm : T * s ≤ 200 * 99 := Nat.mul_le_mul hT s2
      have e : nI X + nI T * t = nI X - nI (T * s) := by
        rw [s4, Int32.mul_neg, pk_mul, Int32.sub_eq_add_neg]
      rw [e, Nat.le_div_iff_mul_le (by omega)]
      by_cases hc : T * s ≤ X
      · rw [pk_sub hc, inR_mk hg hg9 (by omega)]
        omega
      · constructor
        · rintro ⟨z, -⟩
          rw [i_le, pk_sub_toInt (by omega) (by omega)] at z
          have z0 : (0 : Int32).toInt = 0 := rfl
          omega
        · intro z; exact absurd z hc
/-- how many turns a loop could have -/
theorem mtF_ex {bv bn bs : Nat → Int32} : ∀ n, (∀ k, k < n → inR (bv k) (bn k) ∧ strI (bs k)) → (mtF bv bn bs n = -5 ∧ ∀ k, k < n → bs k = 0) ∨ (∃ q : Nat, q ≤ 99 ∧ mtF bv bn bs n = nI (q + 1) ∧ (∀ T : Nat, T ≤ 200 → (T ≤ q ↔ ∀ k, k < n → inR (bv k) (bn k + nI T * bs k)))) := by
  intro n
  induction n with
  | zero => intro _; exact Or.inl ⟨rfl, fun k hk => absurd hk (by omega)⟩
  | succ n ih =>
    intro h
    have ih := ih (fun k hk => h k (by omega))
    obtain ⟨hx, ht⟩ := h n (by omega)
    show (mtStep (bv n) (bn n) (bs n) (mtF bv bn bs n) = -5 ∧ _) ∨ (∃ q : Nat, q ≤ 99 ∧ mtStep (bv n) (bn n) (bs n) (mtF bv bn bs n) = nI (q + 1) ∧ _)
    by_cases h0 : bs n = 0
    · have e : mtStep (bv n) (bn n) (bs n) (mtF bv bn bs n) = mtF bv bn bs n := by
        unfold mtStep
        rw [if_neg]
        rintro ⟨z, -⟩
        exact z (by unfold mtU; rw [if_pos h0])
      rw [e]
      have hz : ∀ T : Nat, inR (bv n) (bn n + nI T * bs n) := fun T => by
        rw [h0, Int32.mul_zero, i_add0]
        exact hx
      rcases ih with ⟨i1, i2⟩ | ⟨q, q1, q2, q3⟩
      · refine Or.inl ⟨i1, fun k hk => ?_⟩
        by_cases hkn : k = n
        · subst hkn; exact h0
        · exact i2 k (by omega)
      · refine Or.inr ⟨q, q1, q2, fun T hT => ?_⟩
        rw [q3 T hT]
        constructor
        · intro z k hk
          by_cases hkn : k = n
          · subst hkn; exact hz T
          · exact z k (by omega)
        · intro z k hk
          exact z k (by omega)
    · obtain ⟨p, p1, p2, p3⟩ := mtU_ex hx ht h0
      have n5 : ∀ w : Nat, w ≤ 99 → ¬ nI (w + 1) = -5 := fun w hw z => by
        have := congrArg Int32.toInt z
        rw [nI_toInt (by omega)] at this
        have z5 : (-5 : Int32).toInt = -5 := rfl
        omega
      rcases ih with ⟨i1, i2⟩ | ⟨q, q1, q2, q3⟩
      · refine Or.inr ⟨p, p1, ?_, fun T hT => ?_⟩
        · unfold mtStep
          rw [p2, if_pos ⟨n5 p p1, Or.inl i1⟩]
        · rw [← p3 T hT]
          constructor
          · intro z k hk
            by_cases hkn : k = n
            · subst hkn; exact z
            · rw [i2 k (by omega), Int32.mul_zero, i_add0]
              exact (h k (by omega)).1
          · intro z; exact z n (by omega)
      · have both : ∀ T : Nat, T ≤ 200 → ((T ≤ q ∧ T ≤ p) ↔ ∀ k, k < n + 1 → inR (bv k) (bn k + nI T * bs k)) := by
          intro T hT
          rw [q3 T hT, ← p3 T hT]
          constructor
          · rintro ⟨z1, z2⟩ k hk
            by_cases hkn : k = n
            · subst hkn; exact z2
            · exact z1 k (by omega)
          · intro z
            exact ⟨fun k hk => z k (by omega), z n (by omega)⟩
        by_cases hc : p < q
        · refine Or.inr ⟨p, p1, ?_, fun T hT => ?_⟩
          · unfold mtStep
            rw [p2, q2, if_pos ⟨n5 p p1, Or.inr ((nlt (by omega) (by omega)).mpr (by omega))⟩]
          · rw [← both T hT]
            omega
        · refine Or.inr ⟨q, q1, ?_, fun T hT => ?_⟩
          · unfold mtStep
            rw [p2, q2, if_neg]
            rintro ⟨-, z | z⟩
            · exact n5 q q1 z
            · have := (nlt (by omega) (by omega)).mp z
              omega
          · rw [← both T hT]
            omega
/-- in its range at two turns: also between -/
theorem inR_mid {v x t : Int32} (hx : inR v x) (ht : strI t) {T T' : Nat} (hT : T ≤ 200) (h : inR v (x + nI T * t)) (hle : T' ≤ T) : inR v (x + nI T' * t) := by
  by_cases h0 : t = 0
  · rw [h0, Int32.mul_zero, i_add0]; exact hx
  · obtain ⟨q, q1, q2, q3⟩ := mtU_ex hx ht h0
    exact (q3 T' (by omega)).mpr (by have := (q3 T hT).mp h; omega)
/-! plays -/
theorem stS_12 {v : Int32} {m d p : Nat} {s : PS} (h1 : s.2.2.1 = nI d) (h2 : s.2.2.2 = nI p) : (stS v m s).2.2.1 = nI (d + 1) ∧ ((stS v m s).2.2.2 = nI p ∨ (stS v m s).2.2.2 = nI (p + 1)) := by
  unfold stS
  rw [h1, h2]
  refine ⟨ninc d, ?_⟩
  show (nI p + _ = nI p) ∨ (nI p + _ = nI (p + 1))
  split
  · exact Or.inr (ninc p)
  · exact Or.inl (i_add0 _)
theorem plTurn_f {bv bn bs : Nat → Int32} {r : Int32} : ∀ (m k : Nat) (s : PS) (d p : Nat), s.2.2.1 = nI d → s.2.2.2 = nI p → p ≤ d → ∃ d' p', (plTurn bv bn bs r m k s).1.2.2.1 = nI d' ∧ (plTurn bv bn bs r m k s).1.2.2.2 = nI p' ∧ p' ≤ d' ∧ d' ≤ d + m ∧ (((plTurn bv bn bs r m k s).2 = 0 ∧ d' = d + m) ∨ ((plTurn bv bn bs r m k s).2 = 1 ∧ d' < d + m ∧ ∃ j, k ≤ j ∧ j < k + m ∧ ¬ inR (bv j) (bn j + r * bs j)) ∨ (plTurn bv bn bs r m k s).2 = 2) := by
  intro m
  induction m with
  | zero => intro k s d p h1 h2 h3; exact ⟨d, p, h1, h2, h3, Nat.le_refl _, Or.inl ⟨rfl, rfl⟩⟩
  | succ m ih =>
    intro k s d p h1 h2 h3
    unfold plTurn
    by_cases hr : inR (bv k) (bn k + r * bs k)
    · rw [if_pos hr]
      obtain ⟨e1, e2⟩ := stS_12 (v := bv k) (m := (bn k + r * bs k).toInt.toNat) h1 h2
      by_cases hp : pStep s.1 s.2.1 (bv k) (bn k + r * bs k).toInt.toNat
      · rw [if_pos hp]
        have : ∃ p1, p1 ≤ d + 1 ∧ (stS (bv k) (bn k + r * bs k).toInt.toNat s).2.2.2 = nI p1 := by
          rcases e2 with e2 | e2
          · exact ⟨p, by omega, e2⟩
          · exact ⟨p + 1, by omega, e2⟩
        obtain ⟨p1, hp1, he⟩ := this
        obtain ⟨d', p', f1, f2', f3, f4, f5⟩ := ih (k + 1) (stS (bv k) (bn k + r * bs k).toInt.toNat s) (d + 1) p1 e1 he hp1
        refine ⟨d', p', f1, f2', f3, by omega, ?_⟩
        rcases f5 with ⟨g1, g2⟩ | ⟨g1, g2, j, g3, g4, g5⟩ | g1
        · exact Or.inl ⟨g1, by omega⟩
        · exact Or.inr (Or.inl ⟨g1, by omega, j, by omega, by omega, g5⟩)
        · exact Or.inr (Or.inr g1)
      · rw [if_neg hp]
        have e3 : (stS (bv k) (bn k + r * bs k).toInt.toNat s).2.2.2 = nI p := by
          unfold stS
          show s.2.2.2 + (if bv k = 5 ∧ pStep s.1 s.2.1 (bv k) (bn k + r * bs k).toInt.toNat then 1 else 0) = nI p
          rw [if_neg (fun z => hp z.2), h2]
          exact i_add0 _
        exact ⟨d + 1, p, e1, e3, by omega, by omega, Or.inr (Or.inr rfl)⟩
    · rw [if_neg hr]
      exact ⟨d, p, h1, h2, h3, by omega, Or.inr (Or.inl ⟨rfl, by omega, k, Nat.le_refl _, by omega, hr⟩)⟩
theorem plBody_f {bv bn bs : Nat → Int32} {size : Nat} : ∀ (m t : Nat) (s : PS) (d p : Nat), s.2.2.1 = nI d → s.2.2.2 = nI p → p ≤ d → ∃ d' p', (plBody bv bn bs size m t s).1.2.2.1 = nI d' ∧ (plBody bv bn bs size m t s).1.2.2.2 = nI p' ∧ p' ≤ d' ∧ d' ≤ d + m * size ∧ (((plBody bv bn bs size m t s).2 = 0 ∧ d' = d + m * size) ∨ ((plBody bv bn bs size m t s).2 = 1 ∧ d' < d + m * size ∧ ∃ j u, j < size ∧ t ≤ u ∧ u < t + m ∧ ¬ inR (bv j) (bn j + nI u * bs j)) ∨ (plBody bv bn bs size m t s).2 = 2) := by
  intro m
  induction m with
  | zero => intro t s d p h1 h2 h3; exact ⟨d, p, h1, h2, h3, by omega, Or.inl ⟨rfl, by omega⟩⟩
  | succ m ih =>
    intro t s d p h1 h2 h3
    have hm : (m + 1) * size = m * size + size := Nat.succ_mul m size
    obtain ⟨d1, p1, f1, f2', f3, f4, f5⟩ := plTurn_f (bv := bv) (bn := bn) (bs := bs) (r := nI t) size 0 s d p h1 h2 h3
    unfold plBody
    by_cases h0 : (plTurn bv bn bs (nI t) size 0 s).2 = 0
    · rw [if_pos h0]
      have hd1 : d1 = d + size := by
        rcases f5 with ⟨-, g2⟩ | ⟨g1, -⟩ | g1
        · exact g2
        · rw [h0] at g1; exact absurd g1 (by decide)
        · rw [h0] at g1; exact absurd g1 (by decide)
      obtain ⟨d', p', e1, e2, e3, e4, e5⟩ := ih (t + 1) _ d1 p1 f1 f2' f3
      refine ⟨d', p', e1, e2, e3, by omega, ?_⟩
      rcases e5 with ⟨g1, g2⟩ | ⟨g1, g2, j, u, g3, g4, g5, g6⟩ | g1
      · exact Or.inl ⟨g1, by omega⟩
      · exact Or.inr (Or.inl ⟨g1, by omega, j, u, g3, by omega, by omega, g6⟩)
      · exact Or.inr (Or.inr g1)
    · rw [if_neg h0]
      refine ⟨d1, p1, f1, f2', f3, by omega, ?_⟩
      rcases f5 with ⟨g1, -⟩ | ⟨g1, g2, j, g3, g4, g5⟩ | g1
      · exact absurd g1 h0
      · exact Or.inr (Or.inl ⟨g1, by omega, j, t, by omega, Nat.le_refl _, by omega, g5⟩)
      · exact Or.inr (Or.inr g1)
/-- rows alike below 30, all else the same -/
def PE (s s' : PS) : Prop := (∀ j, j < 30 → s'.1 j = s.1 j) ∧ s'.2 = s.2
theorem stS_PE {v : Int32} {m : Nat} {s s' : PS} (hs : s.2.1 < 30) (hm : v = 3 ∨ v = 4 → m < 30) (h : PE s s') : PE (stS v m s) (stS v m s') ∧ (pStep s'.1 s'.2.1 v m ↔ pStep s.1 s.2.1 v m) := by
  obtain ⟨c, hd, r⟩ := s
  obtain ⟨c', hd', r'⟩ := s'
  obtain ⟨h1, h2⟩ := h
  cases h2
  have h1 : ∀ j, j < 30 → c' j = c j := h1
  have hhd : hd < 30 := hs
  have hp : pStep c' hd v m ↔ pStep c hd v m := by unfold pStep; rw [h1 hd hhd]
  refine ⟨⟨fun j hj => ?_, ?_⟩, hp⟩
  · show (rowStep c' hd v m).1 j = (rowStep c hd v m).1 j
    have up : ∀ (f g : Nat → Int32) (i : Nat) (x : Int32), f j = g j → upd f i x j = upd g i x j := fun f g i x e => by
      unfold upd
      split
      · rfl
      · exact e
    unfold rowStep
    split
    · exact h1 j hj
    · split
      · exact up _ _ _ _ (h1 j hj)
      · split
        · rw [h1 hd hhd]
          exact up _ _ _ _ (h1 j hj)
        · split
          · rename_i h3
            rw [h1 m (hm (Or.inl h3))]
            exact up _ _ _ _ (h1 j hj)
          · split
            · rename_i h4
              rw [h1 m (hm (Or.inr h4)), h1 hd hhd]
              exact up _ _ _ _ (up _ _ _ _ (h1 j hj))
            · exact h1 j hj
  · show ((rowStep c' hd v m).2, r.1 + 1, r.2 + _) = ((rowStep c hd v m).2, r.1 + 1, r.2 + _)
    have e : (rowStep c' hd v m).2 = (rowStep c hd v m).2 := by
      unfold rowStep
      split
      · rfl
      · split
        · rfl
        · split
          · rfl
          · split
            · rfl
            · split <;> rfl
    rw [e]
    by_cases hc : v = 5 ∧ pStep c hd v m
    · rw [if_pos (show v = 5 ∧ pStep c' hd v m from ⟨hc.1, hp.mpr hc.2⟩), if_pos (show v = 5 ∧ pStep c hd v m from hc)]
    · rw [if_neg (show ¬ (v = 5 ∧ pStep c' hd v m) from fun z => hc ⟨z.1, hp.mp z.2⟩), if_neg (show ¬ (v = 5 ∧ pStep c hd v m) from hc)]
theorem inR_34 {v x : Int32} (h : inR v x) : v = 3 ∨ v = 4 → x.toInt.toNat < 30 := fun z => (inR_nat h).2.2 (z.elim (fun w => Or.inr (Or.inl w)) (fun w => Or.inr (Or.inr w)))
theorem stS_hd {v x : Int32} {s : PS} (hs : s.2.1 < 30) (h : inR v x) : (stS v x.toInt.toNat s).2.1 < 30 := rowStep_hd hs h
theorem plTurn_PE {bv bn bs : Nat → Int32} {r : Int32} : ∀ (m k : Nat) (s s' : PS), s.2.1 < 30 → PE s s' → PE (plTurn bv bn bs r m k s).1 (plTurn bv bn bs r m k s').1 ∧ (plTurn bv bn bs r m k s').2 = (plTurn bv bn bs r m k s).2 := by
  intro m
  induction m with
  | zero => intro k s s' _ h; exact ⟨h, rfl⟩
  | succ m ih =>
    intro k s s' hs h
    unfold plTurn
    by_cases hr : inR (bv k) (bn k + r * bs k)
    · obtain ⟨e1, e2⟩ := stS_PE (v := bv k) hs (inR_34 hr) h
      rw [if_pos hr, if_pos hr]
      by_cases hp : pStep s.1 s.2.1 (bv k) (bn k + r * bs k).toInt.toNat
      · rw [if_pos hp, if_pos (e2.mpr hp)]
        exact ih (k + 1) _ _ (stS_hd hs hr) e1
      · rw [if_neg hp, if_neg (fun z => hp (e2.mp z))]
        exact ⟨e1, rfl⟩
    · rw [if_neg hr, if_neg hr]
      exact ⟨h, rfl⟩
theorem plBody_PE {bv bn bs : Nat → Int32} {size : Nat} : ∀ (m t : Nat) (s s' : PS), s.2.1 < 30 → PE s s' → PE (plBody bv bn bs size m t s).1 (plBody bv bn bs size m t s').1 ∧ (plBody bv bn bs size m t s').2 = (plBody bv bn bs size m t s).2 := by
  intro m
  induction m with
  | zero => intro t s s' _ h; exact ⟨h, rfl⟩
  | succ m ih =>
    intro t s s' hs h
    obtain ⟨e1, e2⟩ := plTurn_PE (bv := bv) (bn := bn) (bs := bs) (r := nI t) size 0 s s' hs h
    unfold plBody
    by_cases h0 : (plTurn bv bn bs (nI t) size 0 s).2 = 0
    · rw [if_pos h0, if_pos (e2.trans h0)]
      exact ih (t + 1) _ _ (plTurn_hd size 0 s hs) e1
    · rw [if_neg h0, if_neg (fun z => h0 (e2.symm.trans z))]
      exact ⟨e1, e2⟩
/-- hand and cells in their ranges -/
def RO (c : Nat → Int32) (hd : Nat) : Prop := hd < 30 ∧ ∀ j, j < 30 → ∃ x, x < 100 ∧ c j = nI x
theorem RO_step {c : Nat → Int32} {hd : Nat} {v x : Int32} (h : RO c hd) (hx : inR v x) : RO (rowStep c hd v x.toInt.toNat).1 (rowStep c hd v x.toInt.toNat).2 := by
  refine ⟨rowStep_hd h.1 hx, fun j hj => ?_⟩
  obtain ⟨hhd, hc⟩ := h
  obtain ⟨-, i2, i3⟩ := inR_nat hx
  have up : ∀ (f : Nat → Int32) (i : Nat) (y : Int32), (∃ w, w < 100 ∧ f j = nI w) → (∃ w, w < 100 ∧ y = nI w) → ∃ w, w < 100 ∧ upd f i y j = nI w := fun f i y e1 e2 => by
    unfold upd
    split
    · exact e2
    · exact e1
  unfold rowStep
  split
  · exact hc j hj
  · split
    · exact up _ _ _ (hc j hj) ⟨_, i2, rfl⟩
    · split
      · refine up _ _ _ (hc j hj) ?_
        obtain ⟨w, w1, w2⟩ := hc hd hhd
        refine ⟨(w + x.toInt.toNat) % 100, Nat.mod_lt _ (by decide), ?_⟩
        rw [w2, nI_add]
        exact pk_rem (by omega) (by decide) (by decide)
      · split
        · rename_i h3
          exact up _ _ _ (hc j hj) (hc _ (i3 (Or.inr (Or.inl h3))))
        · split
          · rename_i h4
            exact up _ _ _ (up _ _ _ (hc j hj) (hc _ (i3 (Or.inr (Or.inr h4))))) (hc hd hhd)
          · exact hc j hj
theorem plTurn_RO {bv bn bs : Nat → Int32} {r : Int32} : ∀ (m k : Nat) (s : PS), RO s.1 s.2.1 → RO (plTurn bv bn bs r m k s).1.1 (plTurn bv bn bs r m k s).1.2.1 := by
  intro m
  induction m with
  | zero => intro k s h; exact h
  | succ m ih =>
    intro k s h
    unfold plTurn
    by_cases hr : inR (bv k) (bn k + r * bs k)
    · have e : RO (stS (bv k) (bn k + r * bs k).toInt.toNat s).1 (stS (bv k) (bn k + r * bs k).toInt.toNat s).2.1 := RO_step h hr
      rw [if_pos hr]
      by_cases hp : pStep s.1 s.2.1 (bv k) (bn k + r * bs k).toInt.toNat
      · rw [if_pos hp]
        exact ih (k + 1) _ e
      · rw [if_neg hp]
        exact e
    · rw [if_neg hr]
      exact h
theorem plBody_RO {bv bn bs : Nat → Int32} {size : Nat} : ∀ (m t : Nat) (s : PS), RO s.1 s.2.1 → RO (plBody bv bn bs size m t s).1.1 (plBody bv bn bs size m t s).1.2.1 := by
  intro m
  induction m with
  | zero => intro t s h; exact h
  | succ m ih =>
    intro t s h
    have e := plTurn_RO (bv := bv) (bn := bn) (bs := bs) (r := nI t) size 0 s h
    unfold plBody
    by_cases h0 : (plTurn bv bn bs (nI t) size 0 s).2 = 0
    · rw [if_pos h0]
      exact ih (t + 1) _ e
    · rw [if_neg h0]
      exact e
theorem sumF_cg {f g : Nat → Int32} : ∀ {n : Nat}, (∀ j, j < n → f j = g j) → sumF f n = sumF g n := by
  intro n
  induction n with
  | zero => intro _; rfl
  | succ n ih =>
    intro h
    show sumF f n + f n = sumF g n + g n
    rw [ih (fun j hj => h j (by omega)), h n (by omega)]
