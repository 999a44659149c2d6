/-! What a play is (both sides are tied to it), and takeBody, turn, playBody, playLoop, play of TryLoopsModel. -/
theorem bI_cg {p q : Prop} [Decidable p] [Decidable q] (h : p ↔ q) : bI p = bI q := by
  unfold bI
  by_cases hp : p
  · rw [if_pos hp, if_pos (h.mp hp)]
  · rw [if_neg hp, if_neg (fun z => hp (h.mpr z))]
def f2 (x : Int32) : Int32 := if x = 2 then 1 else 0
theorem f2_0 : f2 0 = 0 := rfl
theorem f2_1 : f2 1 = 0 := rfl
theorem f2_2 : f2 2 = 1 := rfl
def rowStep (c : Nat → Int32) (hd : Nat) (v : Int32) (m : Nat) : (Nat → Int32) × Nat :=
  if v = 0 then (c, m)
  else if v = 1 then (upd c hd (nI m), hd)
  else if v = 2 then (upd c hd (c hd + nI m - (c hd + nI m) / 100 * 100), hd)
  else if v = 3 then (upd c hd (c m), hd)
  else if v = 4 then (upd (upd c hd (c m)) m (c hd), hd)
  else (c, hd)
/-- cells, hand, steps done, tests passed -/
abbrev PS : Type := (Nat → Int32) × Nat × Int32 × Int32
def stS (v : Int32) (m : Nat) (s : PS) : PS := ((rowStep s.1 s.2.1 v m).1, (rowStep s.1 s.2.1 v m).2, s.2.2.1 + 1, s.2.2.2 + (if v = 5 ∧ pStep s.1 s.2.1 v m then 1 else 0))
def plTurn (bv bn bs : Nat → Int32) (r : Int32) : Nat → Nat → PS → PS × Int32
  | 0, _, s => (s, 0)
  | m + 1, k, s =>
    if inR (bv k) (bn k + r * bs k) then
      if pStep s.1 s.2.1 (bv k) (bn k + r * bs k).toInt.toNat then plTurn bv bn bs r m (k + 1) (stS (bv k) (bn k + r * bs k).toInt.toNat s)
      else (stS (bv k) (bn k + r * bs k).toInt.toNat s, 2)
    else (s, 1)
def plBody (bv bn bs : Nat → Int32) (size : Nat) : Nat → Nat → PS → PS × Int32
  | 0, _, s => (s, 0)
  | m + 1, t, s =>
    if (plTurn bv bn bs (nI t) size 0 s).2 = 0 then plBody bv bn bs size m (t + 1) (plTurn bv bn bs (nI t) size 0 s).1
    else plTurn bv bn bs (nI t) size 0 s
theorem plTurn_congr {bv bn bs bv' bn' bs' : Nat → Int32} {r : Int32} : ∀ (m k : Nat) (s : PS), (∀ j, j < k + m → bv j = bv' j ∧ bn j = bn' j ∧ bs j = bs' j) → plTurn bv bn bs r m k s = plTurn bv' bn' bs' r m k s := by
  intro m
  induction m with
  | zero => intro k s _; rfl
  | succ m ih =>
    intro k s h
    obtain ⟨e1, e2, e3⟩ := h k (by omega)
    simp only [plTurn, e1, e2, e3]
    rw [ih (k + 1) _ (fun j hj => h j (by omega))]
theorem plBody_congr {bv bn bs bv' bn' bs' : Nat → Int32} {size : Nat} (h : ∀ j, j < size → bv j = bv' j ∧ bn j = bn' j ∧ bs j = bs' j) : ∀ (m t : Nat) (s : PS), plBody bv bn bs size m t s = plBody bv' bn' bs' size m t s := by
  intro m
  induction m with
  | zero => intro t s; rfl
  | succ m ih =>
    intro t s
    simp only [plBody]
    rw [plTurn_congr size 0 s (fun j hj => h j (by omega)), ih]
theorem plTurn_rs {bv bn bs : Nat → Int32} {r : Int32} : ∀ (m k : Nat) (s : PS), (plTurn bv bn bs r m k s).2 = 0 ∨ (plTurn bv bn bs r m k s).2 = 1 ∨ (plTurn bv bn bs r m k s).2 = 2 := by
  intro m
  induction m with
  | zero => intro k s; exact Or.inl rfl
  | succ m ih =>
    intro k s
    simp only [plTurn]
    split
    · split
      · exact ih _ _
      · exact Or.inr (Or.inr rfl)
    · exact Or.inr (Or.inl rfl)
theorem rowStep_hd {c : Nat → Int32} {hd : Nat} {v x : Int32} (hhd : hd < 30) (hx : inR v x) : (rowStep c hd v x.toInt.toNat).2 < 30 := by
  unfold rowStep
  split
  · exact (inR_nat hx).2.2 (Or.inl ‹_›)
  split
  · exact hhd
  split
  · exact hhd
  split
  · exact hhd
  split <;> exact hhd
theorem plTurn_hd {bv bn bs : Nat → Int32} {r : Int32} : ∀ (m k : Nat) (s : PS), s.2.1 < 30 → (plTurn bv bn bs r m k s).1.2.1 < 30 := by
  intro m
  induction m with
  | zero => intro k s h; exact h
  | succ m ih =>
    intro k s h
    simp only [plTurn]
    split
    · split
      · exact ih _ _ (rowStep_hd h ‹_›)
      · exact rowStep_hd h ‹_›
    · exact h
/-- the model's row of numbers while it plays -/
def zOf (z0 c : Nat → Int32) (hd : Nat) (dn fl : Int32) : Nat → Int32 := fun j => if j < 30 then c j else if j = 30 then nI hd else if j = 34 then z0 34 + dn else if j = 35 then z0 35 + fl else z0 j
abbrev zPS (z0 : Nat → Int32) (s : PS) (fl : Int32) : Nat → Int32 := zOf z0 s.1 s.2.1 s.2.2.1 fl
theorem zOf_c {z0 c : Nat → Int32} {hd j : Nat} {dn fl : Int32} (h : j < 30) : zOf z0 c hd dn fl j = c j := by unfold zOf; rw [if_pos h]
theorem zOf_30 {z0 c : Nat → Int32} {hd : Nat} {dn fl : Int32} : zOf z0 c hd dn fl 30 = nI hd := by unfold zOf; rw [if_neg (by decide), if_pos rfl]
theorem zOf_34 {z0 c : Nat → Int32} {hd : Nat} {dn fl : Int32} : zOf z0 c hd dn fl 34 = z0 34 + dn := by unfold zOf; rw [if_neg (by decide), if_neg (by decide), if_pos rfl]
theorem zOf_35 {z0 c : Nat → Int32} {hd : Nat} {dn fl : Int32} : zOf z0 c hd dn fl 35 = z0 35 + fl := by unfold zOf; rw [if_neg (by decide), if_neg (by decide), if_neg (by decide), if_pos rfl]
theorem zOf_n {z0 c : Nat → Int32} {hd j : Nat} {dn fl : Int32} (h : 30 < j) (h4 : j ≠ 34) (h5 : j ≠ 35) : zOf z0 c hd dn fl j = z0 j := by unfold zOf; rw [if_neg (by omega), if_neg (by omega), if_neg h4, if_neg h5]
theorem i_add0 (x : Int32) : x + 0 = x := by simp
theorem zOf_0 {z0 c : Nat → Int32} {hd : Nat} (hc : ∀ j, j < 30 → z0 j = c j) (h30 : z0 30 = nI hd) : zOf z0 c hd 0 0 = z0 := by
  funext j
  unfold zOf
  by_cases h : j < 30
  · rw [if_pos h, hc j h]
  rw [if_neg h]
  by_cases h1 : j = 30
  · rw [if_pos h1, h1, h30]
  rw [if_neg h1]
  by_cases h2 : j = 34
  · rw [if_pos h2, h2, i_add0]
  rw [if_neg h2]
  by_cases h3 : j = 35
  · rw [if_pos h3, h3, i_add0]
  rw [if_neg h3]
theorem zStep_zOf {z0 c : Nat → Int32} {hd m : Nat} {v dn fl : Int32} (hhd : hd < 30) (hm : v = 3 ∨ v = 4 → m < 30) : zStep (zOf z0 c hd dn fl) hd v m = zOf z0 (rowStep c hd v m).1 (rowStep c hd v m).2 (dn + 1) (fl + (if pStep c hd v m then 0 else 1)) := by
  have e34 : z0 34 + dn + 1 = z0 34 + (dn + 1) := Int32.add_assoc _ _ _
  have hf0 : isV v → fl + (if pStep c hd v m then 0 else 1) = fl := fun hv => by rw [if_pos (Or.inl hv), i_add0]
  have base : ∀ (c' : Nat → Int32) (hd' : Nat) (j : Nat), zOf z0 c' hd' (dn + 1) fl j = if j < 30 then c' j else if j = 30 then nI hd' else if j = 34 then z0 34 + (dn + 1) else if j = 35 then z0 35 + fl else z0 j := fun _ _ _ => rfl
  have up34 : ∀ j, upd (zOf z0 c hd dn fl) 34 (zOf z0 c hd dn fl 34 + 1) j = zOf z0 c hd (dn + 1) fl j := by
    intro j
    by_cases h4 : j = 34
    · rw [h4, pk_us, zOf_34, zOf_34, e34]
    · rw [pk_un h4]
      unfold zOf
      rw [if_neg h4, if_neg h4]
  have up34' : upd (zOf z0 c hd dn fl) 34 (zOf z0 c hd dn fl 34 + 1) = zOf z0 c hd (dn + 1) fl := funext up34
  have put : ∀ (f : Nat → Int32) (i : Nat) (y : Int32), i < 30 → upd (zOf z0 f hd (dn + 1) fl) i y = zOf z0 (upd f i y) hd (dn + 1) fl := by
    intro f i y hi
    funext j
    by_cases hj : j = i
    · subst hj
      rw [pk_us, zOf_c hi, pk_us]
    · rw [pk_un hj]
      unfold zOf
      by_cases h30 : j < 30
      · rw [if_pos h30, if_pos h30, pk_un hj]
      · rw [if_neg h30, if_neg h30]
  unfold zStep
  rw [up34', zOf_c hhd]
  by_cases v0 : v = 0
  · rw [if_pos v0, hf0 (Or.inl v0)]
    unfold rowStep
    rw [if_pos v0]
    funext j
    by_cases hj : j = 30
    · rw [hj, pk_us, zOf_30]
    · rw [pk_un hj]
      unfold zOf
      rw [if_neg hj, if_neg hj]
  rw [if_neg v0]
  by_cases v1 : v = 1
  · rw [if_pos v1, hf0 (Or.inr (Or.inl v1)), put _ _ _ hhd]
    unfold rowStep
    rw [if_neg v0, if_pos v1]
  rw [if_neg v1]
  by_cases v2 : v = 2
  · rw [if_pos v2, hf0 (Or.inr (Or.inr (Or.inl v2))), put _ _ _ hhd]
    unfold rowStep
    rw [if_neg v0, if_neg v1, if_pos v2]
  rw [if_neg v2]
  by_cases v3 : v = 3
  · rw [if_pos v3, hf0 (Or.inr (Or.inr (Or.inr (Or.inl v3)))), put _ _ _ hhd, zOf_c (hm (Or.inl v3))]
    unfold rowStep
    rw [if_neg v0, if_neg v1, if_neg v2, if_pos v3]
  rw [if_neg v3]
  by_cases v4 : v = 4
  · rw [if_pos v4, hf0 (Or.inr (Or.inr (Or.inr (Or.inr v4)))), put _ _ _ hhd, put _ _ _ (hm (Or.inr v4)), zOf_c (hm (Or.inr v4))]
    unfold rowStep
    rw [if_neg v0, if_neg v1, if_neg v2, if_neg v3, if_pos v4]
  rw [if_neg v4]
  have hv : ¬ isV v := by rintro (z | z | z | z | z) <;> contradiction
  unfold rowStep
  rw [if_neg v0, if_neg v1, if_neg v2, if_neg v3, if_neg v4, zOf_35]
  have e : (if pStep c hd v m then (0 : Int32) else 1) = (if c hd ≤ nI m then 0 else 1) := by
    by_cases hc : c hd ≤ nI m
    · rw [if_pos hc, if_pos (Or.inr hc)]
    · rw [if_neg hc, if_neg (fun z => z.elim hv hc)]
  rw [e]
  funext j
  by_cases hj : j = 35
  · rw [hj, pk_us, zOf_35, Int32.add_assoc]
  · rw [pk_un hj]
    unfold zOf
    rw [if_neg hj, if_neg hj]
def mTB (C : CT) (s : Int32) (v n t : Nat → Int32) : CT := fun i => if i = 105 then upd (C 105) 3 s else if i = 111 then v else if i = 112 then n else if i = 113 then t else C i
theorem mTB_v {C : CT} {s : Int32} {v n t f : Nat → Int32} : mset (mTB C s v n t) 111 f = mTB C s f n t := by
  funext i; unfold mset mTB; split
  · subst_vars; simp
  · simp [*]
theorem mTB_n {C : CT} {s : Int32} {v n t f : Nat → Int32} : mset (mTB C s v n t) 112 f = mTB C s v f t := by
  funext i; unfold mset mTB; split
  · subst_vars; simp
  · simp [*]
theorem mTB_s {C : CT} {s : Int32} {v n t f : Nat → Int32} : mset (mTB C s v n t) 113 f = mTB C s v n f := by
  funext i; unfold mset mTB; split
  · subst_vars; simp
  · simp [*]
theorem mTB_0 {C : CT} {s : Int32} : mset C 105 (upd (C 105) 3 s) = mTB C s (C 111) (C 112) (C 113) := by
  funext i; unfold mset mTB; split
  · rfl
  · split
    · subst_vars; rfl
    · split
      · subst_vars; rfl
      · split
        · subst_vars; rfl
        · rfl
def tbF (old z : Nat → Int32) (s : Nat) (k : Nat) : Nat → Int32 := fun j => if j < k then z (s + 3 * j) else old j
theorem tbF_0 {old z : Nat → Int32} {s : Nat} : tbF old z s 0 = old := by
  funext j; unfold tbF; rw [if_neg (by omega)]
theorem tbF_s {old z : Nat → Int32} {s k : Nat} : upd (tbF old z s k) k (z (s + 3 * k)) = tbF old z s (k + 1) := by
  funext j; unfold upd tbF
  by_cases h : j = k
  · rw [if_pos h, if_pos (by omega), h]
  · rw [if_neg h]
    by_cases h2 : j < k
    · rw [if_pos h2, if_pos (by omega)]
    · rw [if_neg h2, if_neg (by omega)]
theorem tbF_at {old z : Nat → Int32} {s k j : Nat} (h : j < k) : tbF old z s k j = z (s + 3 * j) := by unfold tbF; rw [if_pos h]
/-- behind takeBody(n), the body of len steps -/
def mBody (C : CT) (n len : Nat) : CT := mTB C (nI len) (tbF (C 111) (C 106) (213 + 38 * n + 2) len) (tbF (C 112) (C 106) (213 + 38 * n + 3) len) (tbF (C 113) (C 106) (213 + 38 * n + 4) len)
section MODEL
variable {G : GT} {l : Launch} {sz a : Nat} {C : CT}
set_option maxHeartbeats 4000000 in
theorem tX7_takeBody {n len : Nat} (hn : n < 6) (hl : C 106 (213 + 38 * n) = nI len) (hlen : len ≤ 12) : Ct G l yX7_takeBody cX7_takeBody 4 none 0 0 0 sz [.ref (a + 105), .int (nI n)] (B G a C) (Rwu G a (mBody C n len)) := by
  refine Ct.of (own := RX7) (mn := "takeBody") (L0 := [some (.ref (a + 105)), some (.int (nI n)), none, none]) (by decide +kernel) rfl rfl rfl (Nat.le_of_ble_eq_true rfl) rfl ?_
  have key : ∀ (m k : Nat), k + m = len → V G l RX7 "takeBody" cX7_takeBody 4 none (rmd 0 0 0) E0 (Qm G (Rwu G a (mBody C n len)) sz 0 0) sz 0 0 21 [some (.ref (a + 105)), some (.int (nI n)), some (.int (nI (213 + 38 * n))), some (.int (nI k))] [] (B G a (mTB C (nI len) (tbF (C 111) (C 106) (213 + 38 * n + 2) k) (tbF (C 112) (C 106) (213 + 38 * n + 3) k) (tbF (C 113) (C 106) (213 + 38 * n + 4) k))) := by
    intro m
    induction m with
    | zero =>
      intro k hk
      obtain rfl : k = len := by omega
      refine V_iload_n dX7_takeBody_21 rfl ?_
      refine V_aload_n dX7_takeBody_22 rfl ?_
      refine V_bget dX7_takeBody_23 fX7_95 (by decide) rfl (by (try simp only [mset_s, mset_n, pk_us, pk_un, ne_eq, Nat.reduceEqDiff, Nat.reduceAdd, not_false_eq_true, not_true_eq_false]) <;> rfl) ?_
      rw [show mTB C (nI k) (tbF (C 111) (C 106) (213 + 38 * n + 2) k) (tbF (C 112) (C 106) (213 + 38 * n + 3) k) (tbF (C 113) (C 106) (213 + 38 * n + 4) k) 105 3 = nI k from rfl]
      refine V_icmp_ge dX7_takeBody_26 (fun _ => ?_) (fun z => absurd ((cle (by repeat (first | with_reducible rfl | with_reducible exact nlit | with_reducible apply nadd | with_reducible apply nmul | with_reducible apply nsub | with_reducible assumption | omega)) (by repeat (first | with_reducible rfl | with_reducible exact nlit | with_reducible apply nadd | with_reducible apply nmul | with_reducible apply nsub | with_reducible assumption | omega)) (by omega) (by omega)).mpr (by omega)) z)
      refine V_vret dX7_takeBody_89 rfl rfl rfl ?_
      exact Rwu_i rfl
    | succ m ih =>
      intro k hk
      refine V_iload_n dX7_takeBody_21 rfl ?_
      refine V_aload_n dX7_takeBody_22 rfl ?_
      refine V_bget dX7_takeBody_23 fX7_95 (by decide) rfl (by (try simp only [mset_s, mset_n, pk_us, pk_un, ne_eq, Nat.reduceEqDiff, Nat.reduceAdd, not_false_eq_true, not_true_eq_false]) <;> rfl) ?_
      rw [show mTB C (nI len) (tbF (C 111) (C 106) (213 + 38 * n + 2) k) (tbF (C 112) (C 106) (213 + 38 * n + 3) k) (tbF (C 113) (C 106) (213 + 38 * n + 4) k) 105 3 = nI len from rfl]
      refine V_icmp_ge dX7_takeBody_26 (fun z => absurd z (fun z => absurd ((cle (by repeat (first | with_reducible rfl | with_reducible exact nlit | with_reducible apply nadd | with_reducible apply nmul | with_reducible apply nsub | with_reducible assumption | omega)) (by repeat (first | with_reducible rfl | with_reducible exact nlit | with_reducible apply nadd | with_reducible apply nmul | with_reducible apply nsub | with_reducible assumption | omega)) (by omega) (by omega)).mp z) (by omega))) (fun _ => ?_)
      refine V_aload_n dX7_takeBody_29 rfl ?_
      refine V_bget dX7_takeBody_30 fX7_25 (by decide) rfl (by (try simp only [mset_s, mset_n, pk_us, pk_un, ne_eq, Nat.reduceEqDiff, Nat.reduceAdd, not_false_eq_true, not_true_eq_false]) <;> rfl) ?_
      refine V_iload_n dX7_takeBody_33 rfl ?_
      refine V_aload_n dX7_takeBody_34 rfl ?_
      refine V_bget dX7_takeBody_35 fX7_7 (by decide) rfl (by (try simp only [mset_s, mset_n, pk_us, pk_un, ne_eq, Nat.reduceEqDiff, Nat.reduceAdd, not_false_eq_true, not_true_eq_false]) <;> rfl) ?_
      refine V_iload_n dX7_takeBody_38 rfl ?_
      refine V_iconst (v := 2) dX7_takeBody_39 (by decide) ?_
      refine V_iadd dX7_takeBody_40 ?_
      refine V_iconst (v := 3) dX7_takeBody_41 (by decide) ?_
      refine V_iload_n dX7_takeBody_42 rfl ?_
      refine V_imul dX7_takeBody_43 ?_
      refine V_iadd dX7_takeBody_44 ?_
      refine V_biald dX7_takeBody_45 (by decide) rfl (by repeat (first | with_reducible rfl | with_reducible exact nlit | with_reducible apply nadd | with_reducible apply nmul | with_reducible apply nsub | with_reducible assumption | omega)) (by omega) (by first | decide | omega) (by (try simp only [mset_s, mset_n, pk_us, pk_un, ne_eq, Nat.reduceEqDiff, Nat.reduceAdd, not_false_eq_true, not_true_eq_false]) <;> rfl) ?_
      refine V_biast dX7_takeBody_46 (by decide) (fun _ => rfl) (by repeat (first | with_reducible rfl | with_reducible exact nlit | with_reducible apply nadd | with_reducible apply nmul | with_reducible apply nsub | with_reducible assumption | omega)) (by omega) (by first | decide | omega) ?_
      rw [mTB_v, show mTB C (nI len) (tbF (C 111) (C 106) (213 + 38 * n + 2) k) (tbF (C 112) (C 106) (213 + 38 * n + 3) k) (tbF (C 113) (C 106) (213 + 38 * n + 4) k) 111 = tbF (C 111) (C 106) (213 + 38 * n + 2) k from rfl, show mTB C (nI len) (tbF (C 111) (C 106) (213 + 38 * n + 2) k) (tbF (C 112) (C 106) (213 + 38 * n + 3) k) (tbF (C 113) (C 106) (213 + 38 * n + 4) k) 106 = C 106 from rfl, tbF_s]
      refine V_aload_n dX7_takeBody_47 rfl ?_
      refine V_bget dX7_takeBody_48 fX7_28 (by decide) rfl (by (try simp only [mset_s, mset_n, pk_us, pk_un, ne_eq, Nat.reduceEqDiff, Nat.reduceAdd, not_false_eq_true, not_true_eq_false]) <;> rfl) ?_
      refine V_iload_n dX7_takeBody_51 rfl ?_
      refine V_aload_n dX7_takeBody_52 rfl ?_
      refine V_bget dX7_takeBody_53 fX7_7 (by decide) rfl (by (try simp only [mset_s, mset_n, pk_us, pk_un, ne_eq, Nat.reduceEqDiff, Nat.reduceAdd, not_false_eq_true, not_true_eq_false]) <;> rfl) ?_
      refine V_iload_n dX7_takeBody_56 rfl ?_
      refine V_iconst (v := 3) dX7_takeBody_57 (by decide) ?_
      refine V_iadd dX7_takeBody_58 ?_
      refine V_iconst (v := 3) dX7_takeBody_59 (by decide) ?_
      refine V_iload_n dX7_takeBody_60 rfl ?_
      refine V_imul dX7_takeBody_61 ?_
      refine V_iadd dX7_takeBody_62 ?_
      refine V_biald dX7_takeBody_63 (by decide) rfl (by repeat (first | with_reducible rfl | with_reducible exact nlit | with_reducible apply nadd | with_reducible apply nmul | with_reducible apply nsub | with_reducible assumption | omega)) (by omega) (by first | decide | omega) (by (try simp only [mset_s, mset_n, pk_us, pk_un, ne_eq, Nat.reduceEqDiff, Nat.reduceAdd, not_false_eq_true, not_true_eq_false]) <;> rfl) ?_
      refine V_biast dX7_takeBody_64 (by decide) (fun _ => rfl) (by repeat (first | with_reducible rfl | with_reducible exact nlit | with_reducible apply nadd | with_reducible apply nmul | with_reducible apply nsub | with_reducible assumption | omega)) (by omega) (by first | decide | omega) ?_
      rw [mTB_n, show mTB C (nI len) (tbF (C 111) (C 106) (213 + 38 * n + 2) (k + 1)) (tbF (C 112) (C 106) (213 + 38 * n + 3) k) (tbF (C 113) (C 106) (213 + 38 * n + 4) k) 112 = tbF (C 112) (C 106) (213 + 38 * n + 3) k from rfl, show mTB C (nI len) (tbF (C 111) (C 106) (213 + 38 * n + 2) (k + 1)) (tbF (C 112) (C 106) (213 + 38 * n + 3) k) (tbF (C 113) (C 106) (213 + 38 * n + 4) k) 106 = C 106 from rfl, tbF_s]
      refine V_aload_n dX7_takeBody_65 rfl ?_
      refine V_bget dX7_takeBody_66 fX7_31 (by decide) rfl (by (try simp only [mset_s, mset_n, pk_us, pk_un, ne_eq, Nat.reduceEqDiff, Nat.reduceAdd, not_false_eq_true, not_true_eq_false]) <;> rfl) ?_
      refine V_iload_n dX7_takeBody_69 rfl ?_
      refine V_aload_n dX7_takeBody_70 rfl ?_
      refine V_bget dX7_takeBody_71 fX7_7 (by decide) rfl (by (try simp only [mset_s, mset_n, pk_us, pk_un, ne_eq, Nat.reduceEqDiff, Nat.reduceAdd, not_false_eq_true, not_true_eq_false]) <;> rfl) ?_
      refine V_iload_n dX7_takeBody_74 rfl ?_
      refine V_iconst (v := 4) dX7_takeBody_75 (by decide) ?_
      refine V_iadd dX7_takeBody_76 ?_
      refine V_iconst (v := 3) dX7_takeBody_77 (by decide) ?_
      refine V_iload_n dX7_takeBody_78 rfl ?_
      refine V_imul dX7_takeBody_79 ?_
      refine V_iadd dX7_takeBody_80 ?_
      refine V_biald dX7_takeBody_81 (by decide) rfl (by repeat (first | with_reducible rfl | with_reducible exact nlit | with_reducible apply nadd | with_reducible apply nmul | with_reducible apply nsub | with_reducible assumption | omega)) (by omega) (by first | decide | omega) (by (try simp only [mset_s, mset_n, pk_us, pk_un, ne_eq, Nat.reduceEqDiff, Nat.reduceAdd, not_false_eq_true, not_true_eq_false]) <;> rfl) ?_
      refine V_biast dX7_takeBody_82 (by decide) (fun _ => rfl) (by repeat (first | with_reducible rfl | with_reducible exact nlit | with_reducible apply nadd | with_reducible apply nmul | with_reducible apply nsub | with_reducible assumption | omega)) (by omega) (by first | decide | omega) ?_
      rw [mTB_s, show mTB C (nI len) (tbF (C 111) (C 106) (213 + 38 * n + 2) (k + 1)) (tbF (C 112) (C 106) (213 + 38 * n + 3) (k + 1)) (tbF (C 113) (C 106) (213 + 38 * n + 4) k) 113 = tbF (C 113) (C 106) (213 + 38 * n + 4) k from rfl, show mTB C (nI len) (tbF (C 111) (C 106) (213 + 38 * n + 2) (k + 1)) (tbF (C 112) (C 106) (213 + 38 * n + 3) (k + 1)) (tbF (C 113) (C 106) (213 + 38 * n + 4) k) 106 = C 106 from rfl, tbF_s]
      refine V_iinc dX7_takeBody_83 rfl (ninc _) (by decide) (by dsimp only [List.set] <;> rfl) ?_
      refine V_goto dX7_takeBody_86 ?_
      exact ih (k + 1) (by omega)
  refine V_sipush (v := 213) dX7_takeBody_0 (by decide) ?_
  refine V_bipush (v := 38) dX7_takeBody_3 (by decide) ?_
  refine V_iload_n dX7_takeBody_5 rfl ?_
  refine V_imul dX7_takeBody_6 ?_
  refine V_iadd dX7_takeBody_7 ?_
  rw [show (213 : Int32) + 38 * nI n = nI (213 + 38 * n) from nadd nlit (nmul nlit rfl)]
  refine V_istore_n dX7_takeBody_8 (by decide) (by dsimp only [List.set] <;> rfl) ?_
  refine V_aload_n dX7_takeBody_9 rfl ?_
  refine V_aload_n dX7_takeBody_10 rfl ?_
  refine V_bget dX7_takeBody_11 fX7_7 (by decide) rfl (by (try simp only [mset_s, mset_n, pk_us, pk_un, ne_eq, Nat.reduceEqDiff, Nat.reduceAdd, not_false_eq_true, not_true_eq_false]) <;> rfl) ?_
  refine V_iload_n dX7_takeBody_14 rfl ?_
  refine V_biald dX7_takeBody_15 (by decide) rfl (by repeat (first | with_reducible rfl | with_reducible exact nlit | with_reducible apply nadd | with_reducible apply nmul | with_reducible apply nsub | with_reducible assumption | omega)) (by omega) (by first | decide | omega) (by (try simp only [mset_s, mset_n, pk_us, pk_un, ne_eq, Nat.reduceEqDiff, Nat.reduceAdd, not_false_eq_true, not_true_eq_false]) <;> rfl) ?_
  rw [hl]
  refine V_bputi (i0 := 3) dX7_takeBody_16 fX7_95 (by decide) rfl rfl rfl (Nat.le_of_ble_eq_true rfl) rfl ?_
  refine V_iconst (v := 0) dX7_takeBody_19 (by decide) ?_
  refine V_istore_n dX7_takeBody_20 (by decide) (by dsimp only [List.set] <;> rfl) ?_
  have k0 := key len 0 (by omega)
  rw [tbF_0, tbF_0, tbF_0, ← mTB_0] at k0
  exact k0
set_option maxHeartbeats 4000000 in
theorem tX7_turn {z0 : Nat → Int32} {s : PS} {fl : Int32} {size : Nat} (r : Int32) (hz : C 106 = zPS z0 s fl) (hhd : s.2.1 < 30) (hsz : C 105 3 = nI size) (h20 : size ≤ 20) : Ct G l yX7_turn cX7_turn 5 (some .int) 1 0 0 sz [.ref (a + 105), .int r] (B G a C) (Rw G a (.int (plTurn (C 111) (C 112) (C 113) r size 0 s).2) (mset C 106 (zPS z0 (plTurn (C 111) (C 112) (C 113) r size 0 s).1 (fl + f2 (plTurn (C 111) (C 112) (C 113) r size 0 s).2)))) := by
  refine Ct.of (own := RX7) (mn := "turn") (L0 := [some (.ref (a + 105)), some (.int r), none, none, none]) (by decide +kernel) rfl rfl rfl (Nat.le_of_ble_eq_true rfl) rfl ?_
  have key : ∀ (m k : Nat) (s1 : PS) (L4 : Option Value), k + m = size → s1.2.1 < 30 → plTurn (C 111) (C 112) (C 113) r m k s1 = plTurn (C 111) (C 112) (C 113) r size 0 s → V G l RX7 "turn" cX7_turn 5 (some .int) (rmd 1 0 0) E0 (Qm G (Rw G a (.int (plTurn (C 111) (C 112) (C 113) r size 0 s).2) (mset C 106 (zPS z0 (plTurn (C 111) (C 112) (C 113) r size 0 s).1 (fl + f2 (plTurn (C 111) (C 112) (C 113) r size 0 s).2)))) sz 0 0) sz 0 0 4 [some (.ref (a + 105)), some (.int r), some (.int 0), some (.int (nI k)), L4] [] (B G a (mset C 106 (zPS z0 s1 fl))) := by
    intro m
    induction m with
    | zero =>
      intro k s1 L4 hk h30 hs
      obtain rfl : k = size := by omega
      rw [← hs]
      refine V_iload_n dX7_turn_4 rfl ?_
      refine V_aload_n dX7_turn_5 rfl ?_
      refine V_bget dX7_turn_6 fX7_95 (by decide) rfl (by (try simp only [mset_s, mset_n, pk_us, pk_un, ne_eq, Nat.reduceEqDiff, Nat.reduceAdd, not_false_eq_true, not_true_eq_false]) <;> rfl) ?_
      rw [hsz]
      refine V_icmp_ge dX7_turn_9 (fun _ => ?_) (fun z => absurd ((cle (by repeat (first | with_reducible rfl | with_reducible exact nlit | with_reducible apply nadd | with_reducible apply nmul | with_reducible apply nsub | with_reducible assumption | omega)) (by repeat (first | with_reducible rfl | with_reducible exact nlit | with_reducible apply nadd | with_reducible apply nmul | with_reducible apply nsub | with_reducible assumption | omega)) (by omega) (by omega)).mpr (by omega)) z)
      refine V_iload_n dX7_turn_82 rfl ?_
      refine V_iret dX7_turn_83 rfl rfl rfl ?_
      exact Rw_i rfl (by simp only [plTurn, f2_0, i_add0])
    | succ m ih =>
      intro k s1 L4 hk h30 hs
      refine V_iload_n dX7_turn_4 rfl ?_
      refine V_aload_n dX7_turn_5 rfl ?_
      refine V_bget dX7_turn_6 fX7_95 (by decide) rfl (by (try simp only [mset_s, mset_n, pk_us, pk_un, ne_eq, Nat.reduceEqDiff, Nat.reduceAdd, not_false_eq_true, not_true_eq_false]) <;> rfl) ?_
      rw [hsz]
      refine V_icmp_ge dX7_turn_9 (fun z => absurd z (fun z => absurd ((cle (by repeat (first | with_reducible rfl | with_reducible exact nlit | with_reducible apply nadd | with_reducible apply nmul | with_reducible apply nsub | with_reducible assumption | omega)) (by repeat (first | with_reducible rfl | with_reducible exact nlit | with_reducible apply nadd | with_reducible apply nmul | with_reducible apply nsub | with_reducible assumption | omega)) (by omega) (by omega)).mp z) (by omega))) (fun _ => ?_)
      refine V_iload_n dX7_turn_12 rfl ?_
      refine V_if_ne dX7_turn_13 (fun z => absurd z (fun z => z rfl)) (fun _ => ?_)
      refine V_aload_n dX7_turn_16 rfl ?_
      refine V_bget dX7_turn_17 fX7_28 (by decide) rfl (by (try simp only [mset_s, mset_n, pk_us, pk_un, ne_eq, Nat.reduceEqDiff, Nat.reduceAdd, not_false_eq_true, not_true_eq_false]) <;> rfl) ?_
      refine V_iload_n dX7_turn_20 rfl ?_
      refine V_biald dX7_turn_21 (by decide) rfl (by repeat (first | with_reducible rfl | with_reducible exact nlit | with_reducible apply nadd | with_reducible apply nmul | with_reducible apply nsub | with_reducible assumption | omega)) (by omega) (by first | decide | omega) (by (try simp only [mset_s, mset_n, pk_us, pk_un, ne_eq, Nat.reduceEqDiff, Nat.reduceAdd, not_false_eq_true, not_true_eq_false]) <;> rfl) ?_
      refine V_iload_n dX7_turn_22 rfl ?_
      refine V_aload_n dX7_turn_23 rfl ?_
      refine V_bget dX7_turn_24 fX7_31 (by decide) rfl (by (try simp only [mset_s, mset_n, pk_us, pk_un, ne_eq, Nat.reduceEqDiff, Nat.reduceAdd, not_false_eq_true, not_true_eq_false]) <;> rfl) ?_
      refine V_iload_n dX7_turn_27 rfl ?_
      refine V_biald dX7_turn_28 (by decide) rfl (by repeat (first | with_reducible rfl | with_reducible exact nlit | with_reducible apply nadd | with_reducible apply nmul | with_reducible apply nsub | with_reducible assumption | omega)) (by omega) (by first | decide | omega) (by (try simp only [mset_s, mset_n, pk_us, pk_un, ne_eq, Nat.reduceEqDiff, Nat.reduceAdd, not_false_eq_true, not_true_eq_false]) <;> rfl) ?_
      refine V_imul dX7_turn_29 ?_
      refine V_iadd dX7_turn_30 ?_
      refine V_istore dX7_turn_31 (by decide) (by dsimp only [List.set] <;> rfl) ?_
      refine V_iload dX7_turn_33 rfl ?_
      refine V_iconst (v := 0) dX7_turn_35 (by decide) ?_
      refine V_aload_n dX7_turn_36 rfl ?_
      refine V_bget dX7_turn_37 fX7_25 (by decide) rfl (by (try simp only [mset_s, mset_n, pk_us, pk_un, ne_eq, Nat.reduceEqDiff, Nat.reduceAdd, not_false_eq_true, not_true_eq_false]) <;> rfl) ?_
      refine V_iload_n dX7_turn_40 rfl ?_
      refine V_biald dX7_turn_41 (by decide) rfl (by repeat (first | with_reducible rfl | with_reducible exact nlit | with_reducible apply nadd | with_reducible apply nmul | with_reducible apply nsub | with_reducible assumption | omega)) (by omega) (by first | decide | omega) (by (try simp only [mset_s, mset_n, pk_us, pk_un, ne_eq, Nat.reduceEqDiff, Nat.reduceAdd, not_false_eq_true, not_true_eq_false]) <;> rfl) ?_
      refine V_callSw dX7_turn_42 kX7_56 ykX7_greatest (tX7_greatest _) rfl (Nat.le_of_ble_eq_true rfl) ⟨by decide, by decide, by decide, by decide⟩ ?_
      refine V_callSw dX7_turn_45 kX7_37 ykX7_in (tX7_in _ _ _) rfl (Nat.le_of_ble_eq_true rfl) ⟨by decide, by decide, by decide, by decide⟩ ?_
      rw [plTurn] at hs
      by_cases hx : inR (C 111 k) (C 112 k + r * C 113 k)
      · rw [if_pos hx] at hs
        refine V_if_ne dX7_turn_48 (fun _ => ?_) (fun z => absurd z ((bI_ne0.mpr hx)))
        obtain ⟨ex, hm, hm3⟩ := inR_nat hx
        generalize (C 112 k + r * C 113 k) = x1 at hs hx ex hm hm3
        refine V_aload_n dX7_turn_55 rfl ?_
        refine V_aload_n dX7_turn_56 rfl ?_
        refine V_bget dX7_turn_57 fX7_25 (by decide) rfl (by (try simp only [mset_s, mset_n, pk_us, pk_un, ne_eq, Nat.reduceEqDiff, Nat.reduceAdd, not_false_eq_true, not_true_eq_false]) <;> rfl) ?_
        refine V_iload_n dX7_turn_60 rfl ?_
        refine V_biald dX7_turn_61 (by decide) rfl (by repeat (first | with_reducible rfl | with_reducible exact nlit | with_reducible apply nadd | with_reducible apply nmul | with_reducible apply nsub | with_reducible assumption | omega)) (by omega) (by first | decide | omega) (by (try simp only [mset_s, mset_n, pk_us, pk_un, ne_eq, Nat.reduceEqDiff, Nat.reduceAdd, not_false_eq_true, not_true_eq_false]) <;> rfl) ?_
        refine V_iload dX7_turn_62 rfl ?_
        refine V_toe ex ?_
        refine V_callVw dX7_turn_64 kX7_63 ykX7_doStep (by decide) rfl rfl (tX7_doStep (C := mset C 106 (zPS z0 s1 fl)) (hd := s1.2.1) (by rw [mset_s]; exact zOf_30) h30 (fun q => hm3 (Or.inr q)) hm) rfl (Nat.le_of_ble_eq_true rfl) ⟨by decide, by decide, by decide, by decide⟩ ?_
        simp only [mset_s, mset_ss]
        rw [zStep_zOf h30 (fun q => hm3 (Or.inr q)), bI_cg (q := pStep s1.1 s1.2.1 (C 111 k) x1.toInt.toNat) (by show isV _ ∨ zOf z0 s1.1 s1.2.1 s1.2.2.1 fl s1.2.1 ≤ _ ↔ _; rw [zOf_c h30])]
        by_cases hp : pStep s1.1 s1.2.1 (C 111 k) x1.toInt.toNat
        · rw [if_pos hp] at hs
          refine V_if_eq dX7_turn_67 (fun z => absurd z (bI_ne0.mpr hp)) (fun _ => ?_)
          refine V_iconst (v := 0) dX7_turn_70 (by decide) ?_
          refine V_goto dX7_turn_71 ?_
          refine V_istore_n dX7_turn_75 (by decide) (by dsimp only [List.set] <;> rfl) ?_
          refine V_iinc dX7_turn_76 rfl (ninc _) (by decide) (by dsimp only [List.set] <;> rfl) ?_
          refine V_goto dX7_turn_79 ?_
          rw [if_pos hp, i_add0]
          exact ih (k + 1) (stS (C 111 k) x1.toInt.toNat s1) _ (by omega) (rowStep_hd h30 hx) hs
        · rw [if_neg hp] at hs
          rw [← hs]
          refine V_if_eq dX7_turn_67 (fun _ => ?_) (fun z => absurd (bI_f hp) z)
          refine V_iconst (v := 2) dX7_turn_74 (by decide) ?_
          refine V_istore_n dX7_turn_75 (by decide) (by dsimp only [List.set] <;> rfl) ?_
          refine V_iinc dX7_turn_76 rfl (ninc _) (by decide) (by dsimp only [List.set] <;> rfl) ?_
          have fin : ∀ L4 : Option Value, V G l RX7 "turn" cX7_turn 5 (some .int) (rmd 1 0 0) E0 (Qm G (Rw G a (.int (plTurn (C 111) (C 112) (C 113) r size 0 s).2) (mset C 106 (zPS z0 (plTurn (C 111) (C 112) (C 113) r size 0 s).1 (fl + f2 (plTurn (C 111) (C 112) (C 113) r size 0 s).2)))) sz 0 0) sz 0 0 82 [some (.ref (a + 105)), some (.int r), some (.int 2), some (.int (nI (k + 1))), L4] [] (B G a (mset C 106 (zOf z0 (rowStep s1.1 s1.2.1 (C 111 k) x1.toInt.toNat).1 (rowStep s1.1 s1.2.1 (C 111 k) x1.toInt.toNat).2 (s1.2.2.1 + 1) (fl + 1)))) := by
            intro L4
            rw [← hs]
            refine V_iload_n dX7_turn_82 rfl ?_
            refine V_iret dX7_turn_83 rfl rfl rfl ?_
            exact Rw_i rfl rfl
          rw [if_neg hp]
          refine V_goto dX7_turn_79 ?_
          refine V_iload_n dX7_turn_4 rfl ?_
          refine V_aload_n dX7_turn_5 rfl ?_
          refine V_bget dX7_turn_6 fX7_95 (by decide) rfl (by (try simp only [mset_s, mset_n, pk_us, pk_un, ne_eq, Nat.reduceEqDiff, Nat.reduceAdd, not_false_eq_true, not_true_eq_false]) <;> rfl) ?_
          rw [hsz]
          by_cases hk2 : k + 1 = size
          · refine V_icmp_ge dX7_turn_9 (fun _ => ?_) (fun z => absurd ((cle (by repeat (first | with_reducible rfl | with_reducible exact nlit | with_reducible apply nadd | with_reducible apply nmul | with_reducible apply nsub | with_reducible assumption | omega)) (by repeat (first | with_reducible rfl | with_reducible exact nlit | with_reducible apply nadd | with_reducible apply nmul | with_reducible apply nsub | with_reducible assumption | omega)) (by omega) (by omega)).mpr (by omega)) z)
            rw [hs]
            exact fin _
          · refine V_icmp_ge dX7_turn_9 (fun z => absurd z (fun z => absurd ((cle (by repeat (first | with_reducible rfl | with_reducible exact nlit | with_reducible apply nadd | with_reducible apply nmul | with_reducible apply nsub | with_reducible assumption | omega)) (by repeat (first | with_reducible rfl | with_reducible exact nlit | with_reducible apply nadd | with_reducible apply nmul | with_reducible apply nsub | with_reducible assumption | omega)) (by omega) (by omega)).mp z) (by omega))) (fun _ => ?_)
            refine V_iload_n dX7_turn_12 rfl ?_
            refine V_if_ne dX7_turn_13 (fun _ => ?_) (fun z => absurd z ((by decide)))
            rw [hs]
            exact fin _
      · rw [if_neg hx] at hs
        refine V_if_ne dX7_turn_48 (fun z => absurd z (fun z => z (bI_f hx))) (fun _ => ?_)
        refine V_iconst (v := 1) dX7_turn_51 (by decide) ?_
        refine V_goto dX7_turn_52 ?_
        refine V_istore_n dX7_turn_75 (by decide) (by dsimp only [List.set] <;> rfl) ?_
        refine V_iinc dX7_turn_76 rfl (ninc _) (by decide) (by dsimp only [List.set] <;> rfl) ?_
        have fin : ∀ L4 : Option Value, V G l RX7 "turn" cX7_turn 5 (some .int) (rmd 1 0 0) E0 (Qm G (Rw G a (.int (plTurn (C 111) (C 112) (C 113) r size 0 s).2) (mset C 106 (zPS z0 (plTurn (C 111) (C 112) (C 113) r size 0 s).1 (fl + f2 (plTurn (C 111) (C 112) (C 113) r size 0 s).2)))) sz 0 0) sz 0 0 82 [some (.ref (a + 105)), some (.int r), some (.int 1), some (.int (nI (k + 1))), L4] [] (B G a (mset C 106 (zPS z0 s1 fl))) := by
          intro L4
          rw [← hs]
          refine V_iload_n dX7_turn_82 rfl ?_
          refine V_iret dX7_turn_83 rfl rfl rfl ?_
          exact Rw_i rfl (by simp only [f2_1, i_add0])
        refine V_goto dX7_turn_79 ?_
        refine V_iload_n dX7_turn_4 rfl ?_
        refine V_aload_n dX7_turn_5 rfl ?_
        refine V_bget dX7_turn_6 fX7_95 (by decide) rfl (by (try simp only [mset_s, mset_n, pk_us, pk_un, ne_eq, Nat.reduceEqDiff, Nat.reduceAdd, not_false_eq_true, not_true_eq_false]) <;> rfl) ?_
        rw [hsz]
        by_cases hk2 : k + 1 = size
        · refine V_icmp_ge dX7_turn_9 (fun _ => ?_) (fun z => absurd ((cle (by repeat (first | with_reducible rfl | with_reducible exact nlit | with_reducible apply nadd | with_reducible apply nmul | with_reducible apply nsub | with_reducible assumption | omega)) (by repeat (first | with_reducible rfl | with_reducible exact nlit | with_reducible apply nadd | with_reducible apply nmul | with_reducible apply nsub | with_reducible assumption | omega)) (by omega) (by omega)).mpr (by omega)) z)
          exact fin _
        · refine V_icmp_ge dX7_turn_9 (fun z => absurd z (fun z => absurd ((cle (by repeat (first | with_reducible rfl | with_reducible exact nlit | with_reducible apply nadd | with_reducible apply nmul | with_reducible apply nsub | with_reducible assumption | omega)) (by repeat (first | with_reducible rfl | with_reducible exact nlit | with_reducible apply nadd | with_reducible apply nmul | with_reducible apply nsub | with_reducible assumption | omega)) (by omega) (by omega)).mp z) (by omega))) (fun _ => ?_)
          refine V_iload_n dX7_turn_12 rfl ?_
          refine V_if_ne dX7_turn_13 (fun _ => ?_) (fun z => absurd z ((by decide)))
          exact fin _
  refine V_iconst (v := 0) dX7_turn_0 (by decide) ?_
  refine V_istore_n dX7_turn_1 (by decide) (by dsimp only [List.set] <;> rfl) ?_
  refine V_iconst (v := 0) dX7_turn_2 (by decide) ?_
  refine V_istore_n dX7_turn_3 (by decide) (by dsimp only [List.set] <;> rfl) ?_
  have k0 := key size 0 s none (by omega) hhd rfl
  rw [← hz, mset_eta] at k0
  exact k0
end MODEL
