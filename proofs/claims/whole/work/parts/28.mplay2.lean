/-! TryLoopsModel: playBody, playLoop, play, tests, ifPlayed, fewestTurns. -/
theorem zPS_n {z0 : Nat → Int32} {s : PS} {fl : Int32} (j : Nat) (h : 30 < j) (h4 : j ≠ 34) (h5 : j ≠ 35) : zPS z0 s fl j = z0 j := zOf_n h h4 h5
theorem zPS_34 {z0 : Nat → Int32} {s : PS} {fl : Int32} : zPS z0 s fl 34 = z0 34 + s.2.2.1 := zOf_34
theorem zPS_35 {z0 : Nat → Int32} {s : PS} {fl : Int32} : zPS z0 s fl 35 = z0 35 + fl := zOf_35
theorem zPS_30 {z0 : Nat → Int32} {s : PS} {fl : Int32} : zPS z0 s fl 30 = nI s.2.1 := zOf_30
theorem zPS_c {z0 : Nat → Int32} {s : PS} {fl : Int32} {j : Nat} (h : j < 30) : zPS z0 s fl j = s.1 j := zOf_c h
/-- cells that nobody reads before they are written again -/
def scr (i : Nat) : Bool := i == 93 || i == 105 || i == 106 || (decide (95 ≤ i) && decide (i ≤ 104)) || i == 107 || i == 111 || i == 112 || i == 113 || i == 114
/-- alike but for scratch -/
def SC (C C' : CT) : Prop := (∀ j, j < 441 → C' 106 j = C 106 j) ∧ (∀ j, j ≠ 3 → j ≠ 4 → C' 105 j = C 105 j) ∧ (∀ j, j ≠ 1 → C' 93 j = C 93 j) ∧ ∀ i, scr i = false → C' i = C i
theorem SC.rf {C : CT} : SC C C := ⟨fun _ _ => rfl, fun _ _ _ => rfl, fun _ _ => rfl, fun _ _ => rfl⟩
theorem SC.tr {C C1 C2 : CT} (h : SC C C1) (h1 : SC C1 C2) : SC C C2 := ⟨fun j hj => (h1.1 j hj).trans (h.1 j hj), fun j a b => (h1.2.1 j a b).trans (h.2.1 j a b), fun j a => (h1.2.2.1 j a).trans (h.2.2.1 j a), fun i hi => (h1.2.2.2 i hi).trans (h.2.2.2 i hi)⟩
def Rs (G : GT) (a : Nat) (v : Value) (C : CT) : Option Value → Hp → Prop := fun r h' => ∃ C', r = some v ∧ h' = B G a C' ∧ SC C C'
theorem Rs_i {G : GT} {a : Nat} {x y : Int32} {C C' : CT} (e : x = y) (e2 : SC C' C) : Rs G a (.int y) C' (some (.int x)) (B G a C) := ⟨C, by rw [e], rfl, e2⟩
theorem scr_ne {i k : Nat} (hk : scr k = true) (hi : scr i = false) : i ≠ k := fun e => by rw [e, hk] at hi; cases hi
/-- scratch: a body taken, and the row of numbers as it was (below 441) -/
theorem SC_body {C : CT} {n len : Nat} {z : Nat → Int32} : SC (mset C 106 z) (mset (mBody C n len) 106 z) := by
  refine ⟨fun j _ => by rw [mset_s, mset_s], fun j h3 _ => ?_, fun j _ => rfl, fun i hi => ?_⟩
  · show upd (C 105) 3 (nI len) j = C 105 j
    exact pk_un h3
  · have h6 := scr_ne (k := 106) rfl hi
    rw [mset_n h6, mset_n h6]
    unfold mBody mTB
    rw [if_neg (scr_ne (k := 105) rfl hi), if_neg (scr_ne (k := 111) rfl hi), if_neg (scr_ne (k := 112) rfl hi), if_neg (scr_ne (k := 113) rfl hi)]
def lvM (z : Nat → Int32) (n k : Nat) : Int32 := z (213 + 38 * n + 2 + 3 * k)
def lnM (z : Nat → Int32) (n k : Nat) : Int32 := z (213 + 38 * n + 3 + 3 * k)
def lsM (z : Nat → Int32) (n k : Nat) : Int32 := z (213 + 38 * n + 4 + 3 * k)
abbrev plM (z : Nat → Int32) (n len T : Nat) (s : PS) : PS × Int32 := plBody (lvM z n) (lnM z n) (lsM z n) len T 0 s
def zPl (z0 : Nat → Int32) (P : PS × Int32) (fl : Int32) : Nat → Int32 := upd (upd (zPS z0 P.1 (fl + f2 P.2)) 36 (z0 36 + 1)) 37 P.2
theorem plM_body {C : CT} {n len T : Nat} {s : PS} : plBody (mBody C n len 111) (mBody C n len 112) (mBody C n len 113) len T 0 s = plM (C 106) n len T s :=
  plBody_congr (fun j hj => ⟨tbF_at hj, tbF_at hj, tbF_at hj⟩) T 0 s
theorem plBody_hd {bv bn bs : Nat → Int32} {size : Nat} : ∀ (m t : Nat) (s : PS), s.2.1 < 30 → (plBody bv bn bs size m t s).1.2.1 < 30 := by
  intro m
  induction m with
  | zero => intro t s h; exact h
  | succ m ih =>
    intro t s h
    simp only [plBody]
    split
    · exact ih _ _ (plTurn_hd _ _ _ h)
    · exact plTurn_hd _ _ _ h
theorem plBody_rs {bv bn bs : Nat → Int32} {size : Nat} : ∀ (m t : Nat) (s : PS), (plBody bv bn bs size m t s).2 = 0 ∨ (plBody bv bn bs size m t s).2 = 1 ∨ (plBody bv bn bs size m t s).2 = 2 := by
  intro m
  induction m with
  | zero => intro t s; exact Or.inl rfl
  | succ m ih =>
    intro t s
    simp only [plBody]
    split
    · exact ih _ _
    · exact plTurn_rs _ _ _
/-- how many of the first d steps are tests -/
def testN (bv : Nat → Int32) (size : Nat) : Nat → Int32
  | 0 => 0
  | d + 1 => testN bv size d + (if 4 < bv (d % size) then 1 else 0)
def verbOK (v : Int32) : Prop := isV v ∨ v = 5
theorem plTurn_cnt {bv bn bs : Nat → Int32} {size t : Nat} {r : Int32} (hv : ∀ k, k < size → verbOK (bv k)) : ∀ (m k : Nat) (s : PS), k + m = size → s.2.2.1 = nI (size * t + k) → s.2.2.2 = testN bv size (size * t + k) →
    ∃ d, d ≤ m ∧ (plTurn bv bn bs r m k s).1.2.2.1 = nI (size * t + k + d) ∧ (plTurn bv bn bs r m k s).1.2.2.2 + f2 (plTurn bv bn bs r m k s).2 = testN bv size (size * t + k + d) ∧ ((plTurn bv bn bs r m k s).2 = 0 → d = m) := by
  intro m
  induction m with
  | zero =>
    intro k s hk h1 h2
    refine ⟨0, Nat.le_refl _, h1, ?_, fun _ => rfl⟩
    simp only [plTurn, f2_0, i_add0]
    exact h2
  | succ m ih =>
    intro k s hk h1 h2
    have hmod : (size * t + k) % size = k := by rw [Nat.mul_add_mod]; exact Nat.mod_eq_of_lt (by omega)
    simp only [plTurn]
    by_cases hx : inR (bv k) (bn k + r * bs k)
    · rw [if_pos hx]
      generalize (bn k + r * bs k).toInt.toNat = x
      by_cases hp : pStep s.1 s.2.1 (bv k) x
      · rw [if_pos hp]
        obtain ⟨d, d1, d2, d3, d4⟩ := ih (k + 1) (stS (bv k) x s) (by omega) (by show s.2.2.1 + 1 = _; rw [h1]; exact nI_1 _) (by
          show s.2.2.2 + (if bv k = 5 ∧ pStep s.1 s.2.1 (bv k) x then 1 else 0) = testN bv size (size * t + k) + (if 4 < bv ((size * t + k) % size) then 1 else 0)
          rw [h2, hmod]
          rcases hv k (by omega) with q | q
          · rw [if_neg (fun z => by rcases q with q | q | q | q | q <;> (rw [q] at z; exact absurd z.1 (by decide))), if_neg (fun z => by rcases q with q | q | q | q | q <;> (rw [q] at z; exact absurd z (by decide)))]
          · rw [if_pos ⟨q, hp⟩, if_pos (by rw [q]; decide)])
        refine ⟨d + 1, by omega, ?_, ?_, fun z => by rw [d4 z]⟩
        · rw [show size * t + k + (d + 1) = size * t + (k + 1) + d by omega]; exact d2
        · rw [show size * t + k + (d + 1) = size * t + (k + 1) + d by omega]; exact d3
      · rw [if_neg hp]
        refine ⟨1, by omega, ?_, ?_, fun z => absurd z (by decide : ¬ ((2 : Int32) = 0))⟩
        · show s.2.2.1 + 1 = _
          rw [h1]; exact nI_1 _
        · show s.2.2.2 + (if bv k = 5 ∧ pStep s.1 s.2.1 (bv k) x then 1 else 0) + 1 = testN bv size (size * t + k) + (if 4 < bv ((size * t + k) % size) then 1 else 0)
          rw [if_neg (fun z => hp z.2), i_add0, h2, hmod]
          rcases hv k (by omega) with q | q
          · exact absurd (Or.inl q) hp
          · rw [if_pos (by rw [q]; decide)]
    · rw [if_neg hx]
      refine ⟨0, by omega, h1, ?_, fun z => absurd z (by decide : ¬ ((1 : Int32) = 0))⟩
      show s.2.2.2 + 0 = _
      rw [i_add0]
      exact h2
theorem plBody_cnt {bv bn bs : Nat → Int32} {size : Nat} (hv : ∀ k, k < size → verbOK (bv k)) : ∀ (m t : Nat) (s : PS), s.2.2.1 = nI (size * t) → s.2.2.2 = testN bv size (size * t) →
    ∃ d, d ≤ size * (t + m) ∧ (plBody bv bn bs size m t s).1.2.2.1 = nI d ∧ (plBody bv bn bs size m t s).1.2.2.2 + f2 (plBody bv bn bs size m t s).2 = testN bv size d := by
  intro m
  induction m with
  | zero =>
    intro t s h1 h2
    refine ⟨size * t, Nat.le_refl _, h1, ?_⟩
    simp only [plBody, f2_0, i_add0]
    exact h2
  | succ m ih =>
    intro t s h1 h2
    obtain ⟨d, d1, d2, d3, d4⟩ := plTurn_cnt (bn := bn) (bs := bs) (r := nI t) (t := t) hv size 0 s (by omega) h1 h2
    simp only [plBody]
    by_cases h0 : (plTurn bv bn bs (nI t) size 0 s).2 = 0
    · rw [if_pos h0]
      have hd := d4 h0
      subst hd
      rw [h0, f2_0, i_add0] at d3
      have e : d * t + 0 + d = d * (t + 1) := by rw [Nat.mul_succ]; omega
      rw [e] at d2 d3
      obtain ⟨d', e1, e2, e3⟩ := ih (t + 1) _ d2 d3
      exact ⟨d', by rw [show t + (m + 1) = t + 1 + m by omega]; exact e1, e2, e3⟩
    · rw [if_neg h0]
      refine ⟨size * t + 0 + d, ?_, d2, d3⟩
      have : size * (t + (m + 1)) = size * t + size * m + size := by rw [Nat.mul_add, Nat.mul_add, Nat.mul_one]; omega
      have := Nat.zero_le (size * m)
      omega
section MODEL
variable {G : GT} {l : Launch} {sz a : Nat} {C : CT}
set_option maxHeartbeats 4000000 in
theorem tX7_playBody {z0 : Nat → Int32} {s : PS} {fl : Int32} {size T : Nat} (hz : C 106 = zPS z0 s fl) (hhd : s.2.1 < 30) (hsz : C 105 3 = nI size) (h20 : size ≤ 20) (hT : T < 1000) : Ct G l yX7_playBody cX7_playBody 4 none 2 0 0 sz [.ref (a + 105), .int (nI T)] (B G a C) (Rwu G a (mset C 106 (zPl z0 (plBody (C 111) (C 112) (C 113) size T 0 s) fl))) := by
  refine Ct.of (own := RX7) (mn := "playBody") (L0 := [some (.ref (a + 105)), some (.int (nI T)), none, none]) (by decide +kernel) rfl rfl rfl (Nat.le_of_ble_eq_true rfl) rfl ?_
  have fin : ∀ (P : PS × Int32) (t : Nat), plBody (C 111) (C 112) (C 113) size T 0 s = P → V G l RX7 "playBody" cX7_playBody 4 none (rmd 2 0 0) E0 (Qm G (Rwu G a (mset C 106 (zPl z0 (plBody (C 111) (C 112) (C 113) size T 0 s) fl))) sz 0 0) sz 0 0 25 [some (.ref (a + 105)), some (.int (nI T)), some (.int P.2), some (.int (nI t))] [] (B G a (mset C 106 (zPS z0 P.1 (fl + f2 P.2)))) := by
    intro P t hP
    refine V_aload_n dX7_playBody_25 rfl ?_
    refine V_bget dX7_playBody_26 fX7_7 (by decide) rfl (by (try simp only [mset_s, mset_n, pk_us, pk_un, ne_eq, Nat.reduceEqDiff, Nat.reduceAdd, not_false_eq_true, not_true_eq_false]) <;> rfl) ?_
    refine V_bipush (v := 36) dX7_playBody_29 (by decide) ?_
    refine V_dup2 dX7_playBody_31 rfl rfl ?_
    refine V_biald dX7_playBody_32 (by decide) rfl (by repeat (first | with_reducible rfl | with_reducible exact nlit | with_reducible apply nadd | with_reducible apply nmul | with_reducible apply nsub | with_reducible assumption | omega)) (by omega) (by first | decide | omega) (by (try simp only [mset_s, mset_n, pk_us, pk_un, ne_eq, Nat.reduceEqDiff, Nat.reduceAdd, not_false_eq_true, not_true_eq_false]) <;> rfl) ?_
    rw [zPS_n 36 (by decide) (by decide) (by decide)]
    refine V_iconst (v := 1) dX7_playBody_33 (by decide) ?_
    refine V_iadd dX7_playBody_34 ?_
    refine V_biast dX7_playBody_35 (by decide) (fun _ => rfl) (by repeat (first | with_reducible rfl | with_reducible exact nlit | with_reducible apply nadd | with_reducible apply nmul | with_reducible apply nsub | with_reducible assumption | omega)) (by omega) (by first | decide | omega) ?_
    refine V_aload_n dX7_playBody_36 rfl ?_
    refine V_bget dX7_playBody_37 fX7_7 (by decide) rfl (by (try simp only [mset_s, mset_n, pk_us, pk_un, ne_eq, Nat.reduceEqDiff, Nat.reduceAdd, not_false_eq_true, not_true_eq_false]) <;> rfl) ?_
    refine V_bipush (v := 37) dX7_playBody_40 (by decide) ?_
    refine V_iload_n dX7_playBody_42 rfl ?_
    refine V_biast dX7_playBody_43 (by decide) (fun _ => rfl) (by repeat (first | with_reducible rfl | with_reducible exact nlit | with_reducible apply nadd | with_reducible apply nmul | with_reducible apply nsub | with_reducible assumption | omega)) (by omega) (by first | decide | omega) ?_
    refine V_vret dX7_playBody_44 rfl rfl rfl ?_
    rw [hP]
    refine Rwu_i ?_
    simp only [mset_s, mset_ss]
    rfl
  have key : ∀ (m t : Nat) (s1 : PS), t + m = T → s1.2.1 < 30 → plBody (C 111) (C 112) (C 113) size m t s1 = plBody (C 111) (C 112) (C 113) size T 0 s → V G l RX7 "playBody" cX7_playBody 4 none (rmd 2 0 0) E0 (Qm G (Rwu G a (mset C 106 (zPl z0 (plBody (C 111) (C 112) (C 113) size T 0 s) fl))) sz 0 0) sz 0 0 4 [some (.ref (a + 105)), some (.int (nI T)), some (.int 0), some (.int (nI t))] [] (B G a (mset C 106 (zPS z0 s1 fl))) := by
    intro m
    induction m with
    | zero =>
      intro t s1 hk h30 hs
      refine V_iload_n dX7_playBody_4 rfl ?_
      refine V_iload_n dX7_playBody_5 rfl ?_
      refine V_icmp_ge dX7_playBody_6 (fun _ => ?_) (fun z => absurd ((cle (by repeat (first | with_reducible rfl | with_reducible exact nlit | with_reducible apply nadd | with_reducible apply nmul | with_reducible apply nsub | with_reducible assumption | omega)) (by repeat (first | with_reducible rfl | with_reducible exact nlit | with_reducible apply nadd | with_reducible apply nmul | with_reducible apply nsub | with_reducible assumption | omega)) (by omega) (by omega)).mpr (by omega)) z)
      have := fin (s1, 0) t (by rw [← hs, plBody])
      rw [f2_0, i_add0] at this
      exact this
    | succ m ih =>
      intro t s1 hk h30 hs
      refine V_iload_n dX7_playBody_4 rfl ?_
      refine V_iload_n dX7_playBody_5 rfl ?_
      refine V_icmp_ge dX7_playBody_6 (fun z => absurd z (fun z => absurd ((cle (by repeat (first | with_reducible rfl | with_reducible exact nlit | with_reducible apply nadd | with_reducible apply nmul | with_reducible apply nsub | with_reducible assumption | omega)) (by repeat (first | with_reducible rfl | with_reducible exact nlit | with_reducible apply nadd | with_reducible apply nmul | with_reducible apply nsub | with_reducible assumption | omega)) (by omega) (by omega)).mp z) (by omega))) (fun _ => ?_)
      refine V_iload_n dX7_playBody_9 rfl ?_
      refine V_if_ne dX7_playBody_10 (fun z => absurd z (fun z => z rfl)) (fun _ => ?_)
      refine V_aload_n dX7_playBody_13 rfl ?_
      refine V_iload_n dX7_playBody_14 rfl ?_
      refine V_callVw dX7_playBody_15 kX7_98 ykX7_turn (by decide) rfl rfl (tX7_turn (C := mset C 106 (zPS z0 s1 fl)) _ mset_s h30 hsz h20) rfl (Nat.le_of_ble_eq_true rfl) ⟨by decide, by decide, by decide, by decide⟩ ?_
      simp only [mset_ss]
      rw [show mset C 106 (zPS z0 s1 fl) 111 = C 111 from rfl, show mset C 106 (zPS z0 s1 fl) 112 = C 112 from rfl, show mset C 106 (zPS z0 s1 fl) 113 = C 113 from rfl]
      rw [plBody] at hs
      by_cases h0 : (plTurn (C 111) (C 112) (C 113) (nI t) size 0 s1).2 = 0
      · rw [if_pos h0] at hs
        refine V_istore_n dX7_playBody_18 (by decide) (by dsimp only [List.set] <;> rfl) ?_
        refine V_iinc dX7_playBody_19 rfl (ninc _) (by decide) (by dsimp only [List.set] <;> rfl) ?_
        refine V_goto dX7_playBody_22 ?_
        have := ih (t + 1) _ (by omega) (plTurn_hd size 0 s1 h30) hs
        rw [h0, f2_0, i_add0]
        exact this
      · rw [if_neg h0] at hs
        refine V_istore_n dX7_playBody_18 (by decide) (by dsimp only [List.set] <;> rfl) ?_
        refine V_iinc dX7_playBody_19 rfl (ninc _) (by decide) (by dsimp only [List.set] <;> rfl) ?_
        refine V_goto dX7_playBody_22 ?_
        refine V_iload_n dX7_playBody_4 rfl ?_
        refine V_iload_n dX7_playBody_5 rfl ?_
        rcases Nat.lt_or_ge (t + 1) T with q | q
        · refine V_icmp_ge dX7_playBody_6 (fun z => absurd z (fun z => absurd ((cle (by repeat (first | with_reducible rfl | with_reducible exact nlit | with_reducible apply nadd | with_reducible apply nmul | with_reducible apply nsub | with_reducible assumption | omega)) (by repeat (first | with_reducible rfl | with_reducible exact nlit | with_reducible apply nadd | with_reducible apply nmul | with_reducible apply nsub | with_reducible assumption | omega)) (by omega) (by omega)).mp z) (by omega))) (fun _ => ?_)
          refine V_iload_n dX7_playBody_9 rfl ?_
          refine V_if_ne dX7_playBody_10 (fun _ => ?_) (fun z => absurd z h0)
          exact fin _ (t + 1) hs.symm
        · refine V_icmp_ge dX7_playBody_6 (fun _ => ?_) (fun z => absurd ((cle (by repeat (first | with_reducible rfl | with_reducible exact nlit | with_reducible apply nadd | with_reducible apply nmul | with_reducible apply nsub | with_reducible assumption | omega)) (by repeat (first | with_reducible rfl | with_reducible exact nlit | with_reducible apply nadd | with_reducible apply nmul | with_reducible apply nsub | with_reducible assumption | omega)) (by omega) (by omega)).mpr (by omega)) z)
          exact fin _ (t + 1) hs.symm
  refine V_iconst (v := 0) dX7_playBody_0 (by decide) ?_
  refine V_istore_n dX7_playBody_1 (by decide) (by dsimp only [List.set] <;> rfl) ?_
  refine V_iconst (v := 0) dX7_playBody_2 (by decide) ?_
  refine V_istore_n dX7_playBody_3 (by decide) (by dsimp only [List.set] <;> rfl) ?_
  have k0 := key T 0 s (by omega) hhd rfl
  rw [← hz, mset_eta] at k0
  exact k0
set_option maxHeartbeats 4000000 in
theorem tX7_playLoop {z0 : Nat → Int32} {s : PS} {fl : Int32} {n len T : Nat} (hz : C 106 = zPS z0 s fl) (hhd : s.2.1 < 30) (hn : n < 6) (hl : C 106 (213 + 38 * n) = nI len) (hlen : len ≤ 12) (hT : T < 1000) : Ct G l yX7_playLoop cX7_playLoop 3 none 3 0 0 sz [.ref (a + 105), .int (nI n), .int (nI T)] (B G a C) (Rwu G a (mset (mBody C n len) 106 (zPl z0 (plM (C 106) n len T s) fl))) := by
  refine Ct.of (own := RX7) (mn := "playLoop") (L0 := [some (.ref (a + 105)), some (.int (nI n)), some (.int (nI T))]) (by decide +kernel) rfl rfl rfl (Nat.le_of_ble_eq_true rfl) rfl ?_
  refine V_aload_n dX7_playLoop_0 rfl ?_
  refine V_iload_n dX7_playLoop_1 rfl ?_
  refine V_callVu dX7_playLoop_2 kX7_101 ykX7_takeBody (by decide) rfl rfl (tX7_takeBody hn hl hlen) rfl (Nat.le_of_ble_eq_true rfl) ⟨by decide, by decide, by decide, by decide⟩ ?_
  refine V_aload_n dX7_playLoop_5 rfl ?_
  refine V_iload_n dX7_playLoop_6 rfl ?_
  refine V_callVu dX7_playLoop_7 kX7_105 ykX7_playBody (by decide) rfl rfl (tX7_playBody (C := mBody C n len) (z0 := z0) (s := s) (fl := fl) (size := len) hz hhd rfl (by omega) hT) rfl (Nat.le_of_ble_eq_true rfl) ⟨by decide, by decide, by decide, by decide⟩ ?_
  refine V_vret dX7_playLoop_10 rfl rfl rfl ?_
  rw [plM_body]
  exact Rwu_i rfl
theorem sub_had {x y : Int32} : x + y - x = y := by rw [Int32.add_comm]; exact Int32.add_sub_cancel _ _
set_option maxHeartbeats 4000000 in
theorem tX7_play_o {lc : Nat} (x1 : Int32) (h33 : C 106 33 = nI lc) (hlc : lc ≤ 6) (hx : ¬ isIx x1 lc) : Ct G l yX7_play cX7_play 3 (some .int) 4 0 0 sz [.ref (a + 105), .int x1] (B G a C) (Rw G a (.int (-1)) C) := by
  refine Ct.of (own := RX7) (mn := "play") (L0 := [some (.ref (a + 105)), some (.int x1), none]) (by decide +kernel) rfl rfl rfl (Nat.le_of_ble_eq_true rfl) rfl ?_
  refine V_aload_n dX7_play_0 rfl ?_
  refine V_iload_n dX7_play_1 rfl ?_
  refine V_callVw dX7_play_2 kX7_92 ykX7_isLoop (by decide) rfl rfl (tX7_isLoop _ h33 (by omega)) rfl (Nat.le_of_ble_eq_true rfl) ⟨by decide, by decide, by decide, by decide⟩ ?_
  refine V_if_ne dX7_play_5 (fun z => absurd z (fun z => z (bI_f hx))) (fun _ => ?_)
  refine V_iconst (v := (-1)) dX7_play_8 (by decide) ?_
  refine V_iret dX7_play_9 rfl rfl rfl ?_
  exact Rw_i rfl rfl
set_option maxHeartbeats 4000000 in
theorem tX7_play_n {lc n : Nat} (h33 : C 106 33 = nI lc) (hlc : lc ≤ 6) (hn : n < lc) (ho : C 106 32 = 1) : Ct G l yX7_play cX7_play 3 (some .int) 4 0 0 sz [.ref (a + 105), .int (nI n)] (B G a C) (Rw G a (.int (-4)) C) := by
  refine Ct.of (own := RX7) (mn := "play") (L0 := [some (.ref (a + 105)), some (.int (nI n)), none]) (by decide +kernel) rfl rfl rfl (Nat.le_of_ble_eq_true rfl) rfl ?_
  refine V_aload_n dX7_play_0 rfl ?_
  refine V_iload_n dX7_play_1 rfl ?_
  refine V_callVw dX7_play_2 kX7_92 ykX7_isLoop (by decide) rfl rfl (tX7_isLoop _ h33 (by omega)) rfl (Nat.le_of_ble_eq_true rfl) ⟨by decide, by decide, by decide, by decide⟩ ?_
  refine V_if_ne dX7_play_5 (fun _ => ?_) (fun z => absurd z ((bI_ne0.mpr (isIx_nI hn (by omega)))))
  refine V_aload_n dX7_play_10 rfl ?_
  refine V_bget dX7_play_11 fX7_7 (by decide) rfl (by (try simp only [mset_s, mset_n, pk_us, pk_un, ne_eq, Nat.reduceEqDiff, Nat.reduceAdd, not_false_eq_true, not_true_eq_false]) <;> rfl) ?_
  refine V_bipush (v := 32) dX7_play_14 (by decide) ?_
  refine V_biald dX7_play_16 (by decide) rfl (by repeat (first | with_reducible rfl | with_reducible exact nlit | with_reducible apply nadd | with_reducible apply nmul | with_reducible apply nsub | with_reducible assumption | omega)) (by omega) (by first | decide | omega) (by (try simp only [mset_s, mset_n, pk_us, pk_un, ne_eq, Nat.reduceEqDiff, Nat.reduceAdd, not_false_eq_true, not_true_eq_false]) <;> rfl) ?_
  refine V_iconst (v := 1) dX7_play_17 (by decide) ?_
  refine V_icmp_ne dX7_play_18 (fun z => absurd z (fun z => z ho)) (fun _ => ?_)
  refine V_bipush (v := (-4)) dX7_play_21 (by decide) ?_
  refine V_iret dX7_play_23 rfl rfl rfl ?_
  exact Rw_i rfl rfl
set_option maxHeartbeats 4000000 in
theorem tX7_play {st lc n len T hd : Nat} {c : Nat → Int32} (hst : st ≤ 4) (h0 : C 105 0 = nI st) (h33 : C 106 33 = nI lc) (hlc : lc ≤ 6) (hn : n < lc) (ho : ¬ C 106 32 = 1) (hl : C 106 (213 + 38 * n) = nI len) (hlen : len ≤ 12) (hT : C 106 (214 + 38 * n) = nI T) (hT2 : T < 1000) (hc : ∀ j, j < 30 → C 106 j = c j) (h30 : C 106 30 = nI hd) (hhd : hd < 30) : Ct G l yX7_play cX7_play 3 (some .int) 4 0 0 sz [.ref (a + 105), .int (nI n)] (B G a C) (Rs G a (.int (plM (C 106) n len T (c, hd, 0, 0)).1.2.2.1) (mset (mSave C st) 106 (zPl (C 106) (plM (C 106) n len T (c, hd, 0, 0)) 0))) := by
  refine Ct.of (own := RX7) (mn := "play") (L0 := [some (.ref (a + 105)), some (.int (nI n)), none]) (by decide +kernel) rfl rfl rfl (Nat.le_of_ble_eq_true rfl) rfl ?_
  refine V_aload_n dX7_play_0 rfl ?_
  refine V_iload_n dX7_play_1 rfl ?_
  refine V_callVw dX7_play_2 kX7_92 ykX7_isLoop (by decide) rfl rfl (tX7_isLoop _ h33 (by omega)) rfl (Nat.le_of_ble_eq_true rfl) ⟨by decide, by decide, by decide, by decide⟩ ?_
  refine V_if_ne dX7_play_5 (fun _ => ?_) (fun z => absurd z ((bI_ne0.mpr (isIx_nI hn (by omega)))))
  refine V_aload_n dX7_play_10 rfl ?_
  refine V_bget dX7_play_11 fX7_7 (by decide) rfl (by (try simp only [mset_s, mset_n, pk_us, pk_un, ne_eq, Nat.reduceEqDiff, Nat.reduceAdd, not_false_eq_true, not_true_eq_false]) <;> rfl) ?_
  refine V_bipush (v := 32) dX7_play_14 (by decide) ?_
  refine V_biald dX7_play_16 (by decide) rfl (by repeat (first | with_reducible rfl | with_reducible exact nlit | with_reducible apply nadd | with_reducible apply nmul | with_reducible apply nsub | with_reducible assumption | omega)) (by omega) (by first | decide | omega) (by (try simp only [mset_s, mset_n, pk_us, pk_un, ne_eq, Nat.reduceEqDiff, Nat.reduceAdd, not_false_eq_true, not_true_eq_false]) <;> rfl) ?_
  refine V_iconst (v := 1) dX7_play_17 (by decide) ?_
  refine V_icmp_ne dX7_play_18 (fun _ => ?_) (fun z => absurd z ho)
  refine V_aload_n dX7_play_24 rfl ?_
  refine V_callVu dX7_play_25 kX7_53 ykX7_save (by decide) rfl rfl (tX7_save hst h0) rfl (Nat.le_of_ble_eq_true rfl) ⟨by decide, by decide, by decide, by decide⟩ ?_
  refine V_aload_n dX7_play_28 rfl ?_
  refine V_bget dX7_play_29 fX7_7 (by decide) rfl (by (try simp only [mset_s, mset_n, pk_us, pk_un, ne_eq, Nat.reduceEqDiff, Nat.reduceAdd, not_false_eq_true, not_true_eq_false]) <;> rfl) ?_
  refine V_bipush (v := 34) dX7_play_32 (by decide) ?_
  refine V_biald dX7_play_34 (by decide) rfl (by repeat (first | with_reducible rfl | with_reducible exact nlit | with_reducible apply nadd | with_reducible apply nmul | with_reducible apply nsub | with_reducible assumption | omega)) (by omega) (by first | decide | omega) (by (try simp only [mset_s, mset_n, pk_us, pk_un, ne_eq, Nat.reduceEqDiff, Nat.reduceAdd, not_false_eq_true, not_true_eq_false]) <;> rfl) ?_
  refine V_istore_n dX7_play_35 (by decide) (by dsimp only [List.set] <;> rfl) ?_
  refine V_aload_n dX7_play_36 rfl ?_
  refine V_iload_n dX7_play_37 rfl ?_
  refine V_aload_n dX7_play_38 rfl ?_
  refine V_bget dX7_play_39 fX7_7 (by decide) rfl (by (try simp only [mset_s, mset_n, pk_us, pk_un, ne_eq, Nat.reduceEqDiff, Nat.reduceAdd, not_false_eq_true, not_true_eq_false]) <;> rfl) ?_
  refine V_sipush (v := 213) dX7_play_42 (by decide) ?_
  refine V_bipush (v := 38) dX7_play_45 (by decide) ?_
  refine V_iload_n dX7_play_47 rfl ?_
  refine V_imul dX7_play_48 ?_
  refine V_iadd dX7_play_49 ?_
  refine V_iconst (v := 1) dX7_play_50 (by decide) ?_
  refine V_iadd dX7_play_51 ?_
  refine V_biald dX7_play_52 (by decide) rfl (by repeat (first | with_reducible rfl | with_reducible exact nlit | with_reducible apply nadd | with_reducible apply nmul | with_reducible apply nsub | with_reducible assumption | omega)) (by omega) (by first | decide | omega) (by (try simp only [mset_s, mset_n, pk_us, pk_un, ne_eq, Nat.reduceEqDiff, Nat.reduceAdd, not_false_eq_true, not_true_eq_false]) <;> rfl) ?_
  rw [mSave_z, show 213 + 38 * n + 1 = 214 + 38 * n by omega, hT]
  refine V_callVu dX7_play_53 kX7_108 ykX7_playLoop (by decide) rfl rfl (tX7_playLoop (z0 := C 106) (s := (c, hd, 0, 0)) (fl := 0) (by rw [mSave_z]; exact (zOf_0 hc h30).symm) hhd (by omega) (by rw [mSave_z]; exact hl) hlen hT2) rfl (Nat.le_of_ble_eq_true rfl) ⟨by decide, by decide, by decide, by decide⟩ ?_
  rw [mSave_z]
  refine V_aload_n dX7_play_56 rfl ?_
  refine V_bget dX7_play_57 fX7_7 (by decide) rfl (by (try simp only [mset_s, mset_n, pk_us, pk_un, ne_eq, Nat.reduceEqDiff, Nat.reduceAdd, not_false_eq_true, not_true_eq_false]) <;> rfl) ?_
  refine V_bipush (v := 34) dX7_play_60 (by decide) ?_
  refine V_biald dX7_play_62 (by decide) rfl (by repeat (first | with_reducible rfl | with_reducible exact nlit | with_reducible apply nadd | with_reducible apply nmul | with_reducible apply nsub | with_reducible assumption | omega)) (by omega) (by first | decide | omega) (by (try simp only [mset_s, mset_n, pk_us, pk_un, ne_eq, Nat.reduceEqDiff, Nat.reduceAdd, not_false_eq_true, not_true_eq_false]) <;> rfl) ?_
  rw [show zPl (C 106) (plM (C 106) n len T (c, hd, 0, 0)) 0 34 = C 106 34 + (plM (C 106) n len T (c, hd, 0, 0)).1.2.2.1 from by unfold zPl; rw [pk_un (by decide), pk_un (by decide), zPS_34]]
  refine V_iload_n dX7_play_63 rfl ?_
  refine V_isub dX7_play_64 ?_
  refine V_iret dX7_play_65 rfl rfl rfl ?_
  exact Rs_i sub_had SC_body
set_option maxHeartbeats 4000000 in
theorem tX7_tests {size d : Nat} (hsz : C 105 3 = nI size) (h1 : 1 ≤ size) (h20 : size ≤ 20) (hd : d < 100000) : Ct G l yX7_tests cX7_tests 4 (some .int) 0 0 0 sz [.ref (a + 105), .int (nI d)] (B G a C) (Rw G a (.int (testN (C 111) size d)) C) := by
  refine Ct.of (own := RX7) (mn := "tests") (L0 := [some (.ref (a + 105)), some (.int (nI d)), none, none]) (by decide +kernel) rfl rfl rfl (Nat.le_of_ble_eq_true rfl) rfl ?_
  have key : ∀ (m k : Nat), k + m = d → V G l RX7 "tests" cX7_tests 4 (some .int) (rmd 0 0 0) E0 (Qm G (Rw G a (.int (testN (C 111) size d)) C) sz 0 0) sz 0 0 4 [some (.ref (a + 105)), some (.int (nI d)), some (.int (testN (C 111) size k)), some (.int (nI k))] [] (B G a C) := by
    intro m
    induction m with
    | zero =>
      intro k hk
      obtain rfl : k = d := by omega
      refine V_iload_n dX7_tests_4 rfl ?_
      refine V_iload_n dX7_tests_5 rfl ?_
      refine V_icmp_ge dX7_tests_6 (fun _ => ?_) (fun z => absurd ((cle (by repeat (first | with_reducible rfl | with_reducible exact nlit | with_reducible apply nadd | with_reducible apply nmul | with_reducible apply nsub | with_reducible assumption | omega)) (by repeat (first | with_reducible rfl | with_reducible exact nlit | with_reducible apply nadd | with_reducible apply nmul | with_reducible apply nsub | with_reducible assumption | omega)) (by omega) (by omega)).mpr (by omega)) z)
      refine V_iload_n dX7_tests_38 rfl ?_
      refine V_iret dX7_tests_39 rfl rfl rfl ?_
      exact Rw_i rfl rfl
    | succ m ih =>
      intro k hk
      have hm := Nat.mod_lt k (show 0 < size by omega)
      have go := ih (k + 1) (by omega)
      rw [testN] at go
      refine V_iload_n dX7_tests_4 rfl ?_
      refine V_iload_n dX7_tests_5 rfl ?_
      refine V_icmp_ge dX7_tests_6 (fun z => absurd z (fun z => absurd ((cle (by repeat (first | with_reducible rfl | with_reducible exact nlit | with_reducible apply nadd | with_reducible apply nmul | with_reducible apply nsub | with_reducible assumption | omega)) (by repeat (first | with_reducible rfl | with_reducible exact nlit | with_reducible apply nadd | with_reducible apply nmul | with_reducible apply nsub | with_reducible assumption | omega)) (by omega) (by omega)).mp z) (by omega))) (fun _ => ?_)
      refine V_iload_n dX7_tests_9 rfl ?_
      refine V_aload_n dX7_tests_10 rfl ?_
      refine V_bget dX7_tests_11 fX7_25 (by decide) rfl (by (try simp only [mset_s, mset_n, pk_us, pk_un, ne_eq, Nat.reduceEqDiff, Nat.reduceAdd, not_false_eq_true, not_true_eq_false]) <;> rfl) ?_
      refine V_iload_n dX7_tests_14 rfl ?_
      refine V_aload_n dX7_tests_15 rfl ?_
      refine V_bget dX7_tests_16 fX7_95 (by decide) rfl (by (try simp only [mset_s, mset_n, pk_us, pk_un, ne_eq, Nat.reduceEqDiff, Nat.reduceAdd, not_false_eq_true, not_true_eq_false]) <;> rfl) ?_
      rw [hsz]
      refine V_irem dX7_tests_19 (by intro z; exact absurd ((ceq rfl nlit (by omega) (by omega)).mp z) (by omega)) ?_
      rw [pk_rem (by omega) (by omega) (by omega)]
      refine V_biald dX7_tests_20 (by decide) rfl (by repeat (first | with_reducible rfl | with_reducible exact nlit | with_reducible apply nadd | with_reducible apply nmul | with_reducible apply nsub | with_reducible assumption | omega)) (by omega) (by first | decide | omega) (by (try simp only [mset_s, mset_n, pk_us, pk_un, ne_eq, Nat.reduceEqDiff, Nat.reduceAdd, not_false_eq_true, not_true_eq_false]) <;> rfl) ?_
      refine V_iconst (v := 4) dX7_tests_21 (by decide) ?_
      refine V_icmp_le dX7_tests_22 (fun c22 => ?_) (fun c22 => ?_)
      · refine V_iconst (v := 0) dX7_tests_29 (by decide) ?_
        refine V_iadd dX7_tests_30 ?_
        refine V_istore_n dX7_tests_31 (by decide) (by dsimp only [List.set] <;> rfl) ?_
        refine V_iinc dX7_tests_32 rfl (ninc _) (by decide) (by dsimp only [List.set] <;> rfl) ?_
        refine V_goto dX7_tests_35 ?_
        rw [if_neg (fun z => by rw [i_lt] at z; rw [i_le] at c22; omega)] at go
        exact go
      · refine V_iconst (v := 1) dX7_tests_25 (by decide) ?_
        refine V_goto dX7_tests_26 ?_
        refine V_iadd dX7_tests_30 ?_
        refine V_istore_n dX7_tests_31 (by decide) (by dsimp only [List.set] <;> rfl) ?_
        refine V_iinc dX7_tests_32 rfl (ninc _) (by decide) (by dsimp only [List.set] <;> rfl) ?_
        refine V_goto dX7_tests_35 ?_
        rw [if_pos (by rw [i_lt]; rw [i_le] at c22; omega)] at go
        exact go
  refine V_iconst (v := 0) dX7_tests_0 (by decide) ?_
  refine V_istore_n dX7_tests_1 (by decide) (by dsimp only [List.set] <;> rfl) ?_
  refine V_iconst (v := 0) dX7_tests_2 (by decide) ?_
  refine V_istore_n dX7_tests_3 (by decide) (by dsimp only [List.set] <;> rfl) ?_
  exact key d 0 (by omega)
end MODEL
