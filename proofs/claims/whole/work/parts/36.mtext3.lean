/-! What an item is; readItem of TryLoopsModel. -/
theorem pBdy_ok {ch : Nat → Int32} {n : Nat} (h : ∀ j, n ≤ j → ch j = 0) : ∀ (f p : Nat) (acc : List TS), p ≤ n → (pBdy ch f p acc).2 ≤ n ∧ p ≤ (pBdy ch f p acc).2 ∧ ∀ b, (pBdy ch f p acc).1 = some b → p + 3 * (b.length - acc.length) ≤ (pBdy ch f p acc).2 ∧ acc.length < b.length ∧ ((∀ s ∈ acc, tsOK s) → ∀ s ∈ b, tsOK s) := by
  intro f
  induction f with
  | zero => intro p acc hp; exact ⟨hp, Nat.le_refl _, fun b hb => by cases hb⟩
  | succ f ih =>
    intro p acc hp
    have h1 := pStp_ok (hs := true) h hp
    rw [pBdy]
    generalize pStp ch true p = r at h1
    obtain ⟨s, p1⟩ := r
    cases s with
    | none => exact ⟨h1.1, h1.2.1, fun b hb => by cases hb⟩
    | some s =>
      obtain ⟨h11, h12, h13⟩ := h1
      obtain ⟨h14, h15⟩ := h13 s rfl
      simp only at h11 h12 h14 ⊢
      by_cases hc : ch p1 = 44
      · rw [if_pos hc]
        have hp1 := vB_none h (show ch p1 ≠ 0 by rw [hc]; decide)
        obtain ⟨i1, i2, i3⟩ := ih (p1 + 1) (acc ++ [s]) (by omega)
        refine ⟨i1, by omega, fun b hb => ?_⟩
        obtain ⟨j1, j2, j3⟩ := i3 b hb
        rw [List.length_append, List.length_singleton] at j1 j2
        refine ⟨by omega, by omega, fun ha => j3 (fun s' hs' => ?_)⟩
        rcases List.mem_append.mp hs' with q | q
        · exact ha s' q
        · rw [List.mem_singleton.mp q]; exact h15
      · rw [if_neg hc]
        by_cases hd : ch p1 = 41
        · rw [if_pos hd]
          have hp1 := vB_none h (show ch p1 ≠ 0 by rw [hd]; decide)
          refine ⟨by show p1 + 1 ≤ n; omega, by show p ≤ p1 + 1; omega, fun b hb => ?_⟩
          cases hb
          rw [List.length_append, List.length_singleton]
          refine ⟨by show p + 3 * (acc.length + 1 - acc.length) ≤ p1 + 1; omega, by omega, fun ha s' hs' => ?_⟩
          rcases List.mem_append.mp hs' with q | q
          · exact ha s' q
          · rw [List.mem_singleton.mp q]; exact h15
        · rw [if_neg hd]
          exact ⟨h11, h12, fun b hb => by cases hb⟩
/-- what an item of a text is -/
def itOK (i : Nat × List TS) : Prop := ((i.1 = 0 ∧ i.2.length = 1) ∨ (2 ≤ i.1 ∧ i.1 ≤ 99 ∧ 1 ≤ i.2.length ∧ i.2.length ≤ 19)) ∧ ∀ s ∈ i.2, tsOK s
theorem pItm_ok {ch : Nat → Int32} {n p : Nat} (h : ∀ j, n ≤ j → ch j = 0) (hp : p ≤ n) (hn : n ≤ 60) : (pItm ch p).2 ≤ n ∧ p ≤ (pItm ch p).2 ∧ ∀ i, (pItm ch p).1 = some i → p + 2 ≤ (pItm ch p).2 ∧ itOK i := by
  unfold pItm
  by_cases hd : isD (ch p)
  · rw [if_pos hd]
    have h1 := pNum_le (lo := 1) (hi := 99) h hp
    have h1x : ∀ x, (pNum ch 1 99 p).1 = some x → x ≤ 99 ∧ (1 = 0 ∨ 0 < x) := fun x => pNum_hi (by decide)
    generalize pNum ch 1 99 p = r at h1 h1x
    obtain ⟨T, p1⟩ := r
    cases T with
    | none => exact ⟨h1.1, h1.2.1, fun i hi => by cases hi⟩
    | some T =>
      have hT := h1x T rfl
      have h11 := h1.1
      have h12 := h1.2.2 (by simp)
      simp only at h11 h12 ⊢
      by_cases hT1 : T = 1
      · rw [if_pos hT1]; exact ⟨h11, by show p ≤ p1; omega, fun i hi => by cases hi⟩
      · rw [if_neg hT1]
        by_cases hc : ch p1 = 40
        · rw [if_pos hc]
          have hp1 := vB_none h (show ch p1 ≠ 0 by rw [hc]; decide)
          have h2 := pBdy_ok h 60 (p1 + 1) [] (by omega)
          generalize pBdy ch 60 (p1 + 1) [] = r2 at h2
          obtain ⟨b, p2⟩ := r2
          obtain ⟨h21, h22, h23⟩ := h2
          simp only at h21 h22 h23
          cases b with
          | none => exact ⟨h21, by show p ≤ p2; omega, fun i hi => by cases hi⟩
          | some b =>
            obtain ⟨h24, h25, h26⟩ := h23 b rfl
            simp only [List.length_nil] at h24 h25
            refine ⟨h21, by show p ≤ p2; omega, fun i hi => ?_⟩
            cases hi
            refine ⟨by show p + 2 ≤ p2; omega, Or.inr ⟨by show 2 ≤ T; omega, hT.1, h25, by show b.length ≤ 19; omega⟩, h26 (fun s hs => by cases hs)⟩
        · rw [if_neg hc]; exact ⟨h11, by show p ≤ p1; omega, fun i hi => by cases hi⟩
  · rw [if_neg hd]
    have h1 := pStp_ok (hs := false) h hp
    generalize pStp ch false p = r at h1
    obtain ⟨s, p1⟩ := r
    cases s with
    | none => exact ⟨h1.1, h1.2.1, fun i hi => by cases hi⟩
    | some s =>
      obtain ⟨h11, h12, h13⟩ := h1
      obtain ⟨h14, h15⟩ := h13 s rfl
      exact ⟨h11, h12, fun i hi => by cases hi; exact ⟨h14, Or.inl ⟨rfl, rfl⟩, fun s' hs' => by rw [List.mem_singleton.mp hs']; exact h15⟩⟩
/-- arrays that hold a body -/
def holdB (v n t : Nat → Int32) (b : List TS) : Prop := ∀ k s, b[k]? = some s → v k = nI s.1 ∧ n k = nI s.2.1 ∧ t k = s.2.2
theorem holdB_nil {v n t : Nat → Int32} : holdB v n t [] := fun k s h => by simp at h
theorem holdB_add {v n t : Nat → Int32} {b : List TS} {s : TS} (h : holdB v n t b) : holdB (upd v b.length (nI s.1)) (upd n b.length (nI s.2.1)) (upd t b.length s.2.2) (b ++ [s]) := by
  intro k s' hk
  by_cases hl : k < b.length
  · rw [List.getElem?_append_left hl] at hk
    rw [pk_un (by omega), pk_un (by omega), pk_un (by omega)]
    exact h k s' hk
  · rw [List.getElem?_append_right (by omega)] at hk
    have hz : k - b.length < 1 := (List.getElem?_eq_some_iff.mp hk).1
    obtain rfl : k = b.length := by omega
    simp at hk
    subst hk
    rw [pk_us, pk_us, pk_us]
    exact ⟨rfl, rfl, rfl⟩
/-- what reading an item leaves -/
def Rit (G : GT) (a : Nat) (C : CT) (r : Option (Nat × List TS) × Nat) : Option Value → Hp → Prop := fun rr h' => ∃ (s : Nat) (v n t : Nat → Int32), rr = some (.int (oN (r.1.map fun i => i.1))) ∧ h' = B G a (mTX C s r.2 v n t) ∧ ∀ i, r.1 = some i → s = i.2.length ∧ holdB v n t i.2
section MODEL
variable {G : GT} {l : Launch} {sz a : Nat} {C : CT}
set_option maxHeartbeats 4000000 in
theorem tX7_readItem {n p s0 : Nat} {vv nn tt : Nat → Int32} {res : Option (Nat × List TS) × Nat} (hres : res = pItm (chM C n) p) (hn : C 105 2 = nI n) (hn60 : n ≤ 60) (hp : p ≤ n) : Ct G l yX7_readItem cX7_readItem 2 (some .int) 4 0 0 sz [.ref (a + 105)] (B G a (mTX C s0 p vv nn tt)) (Rit G a C res) := by
  have c0 : ∀ j, n ≤ j → chM C n j = 0 := chF_0
  have h2 : ∀ {s p : Nat} {vv nn tt : Nat → Int32}, mTX C s p vv nn tt 105 2 = nI n := hn
  have h4 : ∀ {s p : Nat} {vv nn tt : Nat → Int32}, mTX C s p vv nn tt 105 4 = nI p := rfl
  refine Ct.of (own := RX7) (mn := "readItem") (L0 := [some (.ref (a + 105)), none]) (by decide +kernel) rfl rfl rfl (Nat.le_of_ble_eq_true rfl) rfl ?_
  have bad : ∀ (q s1 : Nat) (v1 n1 t1 : Nat → Int32), res = (none, q) → Rit G a C res (some (.int (-5))) (B G a (mTX C s1 q v1 n1 t1)) := by
    intro q s1 v1 n1 t1 hr
    rw [hr]
    exact ⟨s1, v1, n1, t1, rfl, rfl, fun i hi => by cases hi⟩
  have body : ∀ (T f p1 : Nat) (acc : List TS) (v1 n1 t1 : Nat → Int32), p1 ≤ n → n < p1 + 1 + f → 3 * acc.length + 1 ≤ p1 → holdB v1 n1 t1 acc → res = (match (if chM C n p1 = 44 then pBdy (chM C n) f (p1 + 1) acc else if chM C n p1 = 41 then (some acc, p1 + 1) else (none, p1)) with | (none, p2) => (none, p2) | (some b, p2) => (some (T, b), p2)) → V G l RX7 "readItem" cX7_readItem 2 (some .int) (rmd 4 0 0) E0 (Qm G (Rit G a C res) sz 0 0) sz 0 0 64 [some (.ref (a + 105)), some (.int (nI T))] [] (B G a (mTX C acc.length p1 v1 n1 t1)) := by
    intro T f
    induction f with
    | zero =>
      intro p1 acc v1 n1 t1 hp1 hf h3 hh hr
      have e0 := c0 p1 (by omega)
      rw [e0, if_neg (by decide), if_neg (by decide)] at hr
      refine V_aload_n dX7_readItem_64 rfl ?_
      refine V_bipush (v := 44) dX7_readItem_65 (by decide) ?_
      refine V_callVw dX7_readItem_67 kX7_127 ykX7_takes (by decide) rfl rfl (tX7_takes (C := mTX C acc.length p1 v1 n1 t1) 44 (by decide) h2 hn60 h4 (by omega)) rfl (Nat.le_of_ble_eq_true rfl) ⟨by decide, by decide, by decide, by decide⟩ ?_
      rw [chM_TX, mSp_TX, e0, if_neg (by decide)]
      refine V_if_eq dX7_readItem_70 (fun _ => ?_) (fun z => absurd (bI_f (by decide)) z)
      refine V_aload_n dX7_readItem_84 rfl ?_
      refine V_bipush (v := 41) dX7_readItem_85 (by decide) ?_
      refine V_callVw dX7_readItem_87 kX7_127 ykX7_takes (by decide) rfl rfl (tX7_takes (C := mTX C acc.length p1 v1 n1 t1) 41 (by decide) h2 hn60 h4 (by omega)) rfl (Nat.le_of_ble_eq_true rfl) ⟨by decide, by decide, by decide, by decide⟩ ?_
      rw [chM_TX, mSp_TX, e0, if_neg (by decide)]
      refine V_if_eq dX7_readItem_90 (fun _ => ?_) (fun z => absurd (bI_f (by decide)) z)
      refine V_bipush (v := (-5)) dX7_readItem_97 (by decide) ?_
      refine V_iret dX7_readItem_99 rfl rfl rfl ?_
      exact bad _ _ _ _ _ hr
    | succ f ih =>
      intro p1 acc v1 n1 t1 hp1 hf h3 hh hr
      refine V_aload_n dX7_readItem_64 rfl ?_
      refine V_bipush (v := 44) dX7_readItem_65 (by decide) ?_
      refine V_callVw dX7_readItem_67 kX7_127 ykX7_takes (by decide) rfl rfl (tX7_takes (C := mTX C acc.length p1 v1 n1 t1) 44 (by decide) h2 hn60 h4 (by omega)) rfl (Nat.le_of_ble_eq_true rfl) ⟨by decide, by decide, by decide, by decide⟩ ?_
      rw [chM_TX, mSp_TX]
      by_cases hc : chM C n p1 = 44
      · have hpn := vB_none c0 (show chM C n p1 ≠ 0 by rw [hc]; decide)
        rw [if_pos hc] at hr
        rw [if_pos hc]
        refine V_if_eq dX7_readItem_70 (fun z => absurd z (bI_ne0.mpr hc)) (fun _ => ?_)
        refine V_aload_n dX7_readItem_73 rfl ?_
        refine V_iconst (v := 1) dX7_readItem_74 (by decide) ?_
        rw [show (1 : Int32) = bI (true = true) from rfl]
        refine V_callVw dX7_readItem_75 kX7_130 ykX7_readStep (by decide) rfl rfl (tX7_readStep (C := C) (n := n) (p := p1 + 1) (s := acc.length) (vv := v1) (nn := n1) (tt := t1) true hn hn60 (by omega) (by omega)) rfl (Nat.le_of_ble_eq_true rfl) ⟨by decide, by decide, by decide, by decide⟩ ?_
        have l1 := pStp_ok (hs := true) c0 (show p1 + 1 ≤ n by omega)
        rw [pBdy] at hr
        generalize pStp (chM C n) true (p1 + 1) = r1 at hr l1
        obtain ⟨s1, p2⟩ := r1
        cases s1 with
        | none =>
          refine V_if_ne dX7_readItem_78 (fun z => absurd z (fun z => z (bI_f (fun z => z rfl)))) (fun _ => ?_)
          refine V_bipush (v := (-5)) dX7_readItem_81 (by decide) ?_
          refine V_iret dX7_readItem_83 rfl rfl rfl ?_
          exact bad _ _ _ _ _ hr
        | some s1 =>
          obtain ⟨l11, l12, l13⟩ := l1
          obtain ⟨l14, l15⟩ := l13 s1 rfl
          simp only at l11 l12 l14
          refine V_if_ne dX7_readItem_78 (fun _ => ?_) (fun z => absurd z ((bI_ne0.mpr (by simp))))
          have := ih p2 (acc ++ [s1]) (upd v1 acc.length (nI s1.1)) (upd n1 acc.length (nI s1.2.1)) (upd t1 acc.length s1.2.2) l11 (by omega) (by rw [List.length_append, List.length_singleton]; omega) (holdB_add hh) hr
          rw [List.length_append, List.length_singleton] at this
          exact this
      · rw [if_neg hc] at hr
        rw [if_neg hc]
        refine V_if_eq dX7_readItem_70 (fun _ => ?_) (fun z => absurd (bI_f hc) z)
        refine V_aload_n dX7_readItem_84 rfl ?_
        refine V_bipush (v := 41) dX7_readItem_85 (by decide) ?_
        refine V_callVw dX7_readItem_87 kX7_127 ykX7_takes (by decide) rfl rfl (tX7_takes (C := mTX C acc.length p1 v1 n1 t1) 41 (by decide) h2 hn60 h4 (by omega)) rfl (Nat.le_of_ble_eq_true rfl) ⟨by decide, by decide, by decide, by decide⟩ ?_
        rw [chM_TX, mSp_TX]
        by_cases hd : chM C n p1 = 41
        · rw [if_pos hd] at hr
          rw [if_pos hd]
          refine V_if_eq dX7_readItem_90 (fun z => absurd z (bI_ne0.mpr hd)) (fun _ => ?_)
          refine V_iload_n dX7_readItem_93 rfl ?_
          refine V_goto dX7_readItem_94 ?_
          refine V_iret dX7_readItem_99 rfl rfl rfl ?_
          rw [hr]
          exact ⟨acc.length, v1, n1, t1, rfl, rfl, fun i hi => by cases hi; exact ⟨rfl, hh⟩⟩
        · rw [if_neg hd] at hr
          rw [if_neg hd]
          refine V_if_eq dX7_readItem_90 (fun _ => ?_) (fun z => absurd (bI_f hd) z)
          refine V_bipush (v := (-5)) dX7_readItem_97 (by decide) ?_
          refine V_iret dX7_readItem_99 rfl rfl rfl ?_
          exact bad _ _ _ _ _ hr
  refine V_aload_n dX7_readItem_0 rfl ?_
  refine V_iconst (v := 0) dX7_readItem_1 (by decide) ?_
  refine V_bputi (i0 := 3) dX7_readItem_2 fX7_95 (by decide) rfl rfl rfl (Nat.le_of_ble_eq_true rfl) rfl ?_
  rw [show mset (mTX C s0 p vv nn tt) 105 (upd (mTX C s0 p vv nn tt 105) 3 0) = mTX C 0 p vv nn tt from mTX_s]
  refine V_aload_n dX7_readItem_5 rfl ?_
  refine V_bipush (v := 49) dX7_readItem_6 (by decide) ?_
  refine V_bipush (v := 57) dX7_readItem_8 (by decide) ?_
  refine V_callVw dX7_readItem_10 kX7_118 ykX7_sees (by decide) rfl rfl (tX7_sees (C := mTX C 0 p vv nn tt) 49 57 (by decide) h2 hn60 h4 (by omega)) rfl (Nat.le_of_ble_eq_true rfl) ⟨by decide, by decide, by decide, by decide⟩ ?_
  rw [chM_TX]
  have e1 : (49 ≤ chM C n p ∧ chM C n p ≤ 57) ↔ (isD (chM C n p) ∧ 0 < dgN (chM C n p)) := by
    unfold dgN isD
    rw [i_le, i_le, i_le, show (48 : Int32).toInt = 48 from rfl, show (57 : Int32).toInt = 57 from rfl, show (49 : Int32).toInt = 49 from rfl]
    omega
  rw [bI_cg e1]
  by_cases hd : isD (chM C n p) ∧ 0 < dgN (chM C n p)
  · refine V_if_ne dX7_readItem_13 (fun _ => ?_) (fun z => absurd z ((bI_ne0.mpr hd)))
    unfold pItm at hres
    rw [if_pos hd.1] at hres
    refine V_aload_n dX7_readItem_31 rfl ?_
    refine V_iconst (v := 1) dX7_readItem_32 (by decide) ?_
    refine V_bipush (v := 99) dX7_readItem_33 (by decide) ?_
    refine V_callVw dX7_readItem_35 kX7_124 ykX7_number (by decide) rfl rfl (tX7_number (C := mTX C 0 p vv nn tt) (lo := 1) (hi := 99) (by omega) (by omega) h2 hn60 h4 (by omega)) rfl (Nat.le_of_ble_eq_true rfl) ⟨by decide, by decide, by decide, by decide⟩ ?_
    rw [chM_TX, mSp_TX]
    have l1 := pNum_le (lo := 1) (hi := 99) c0 hp
    have l1x : ∀ x, (pNum (chM C n) 1 99 p).1 = some x → x ≤ 99 ∧ (1 = 0 ∨ 0 < x) := fun x => pNum_hi (by decide)
    have l1s : (pNum (chM C n) 1 99 p).1 ≠ none := by
      unfold pNum
      rw [if_pos ⟨hd.1, Or.inr hd.2⟩]
      split <;> simp
    generalize pNum (chM C n) 1 99 p = r1 at hres l1 l1x l1s
    obtain ⟨T, p1⟩ := r1
    cases T with
    | none => exact absurd rfl l1s
    | some T =>
      have hT := l1x T rfl
      have l11 := l1.1
      have l12 := l1.2.2 (by simp)
      simp only at hres l11 l12
      refine V_istore_n dX7_readItem_38 (by decide) (by dsimp only [List.set] <;> rfl) ?_
      refine V_iload_n dX7_readItem_39 rfl ?_
      refine V_iconst (v := 1) dX7_readItem_40 (by decide) ?_
      by_cases hT1 : T = 1
      · rw [if_pos hT1] at hres
        refine V_icmp_eq dX7_readItem_41 (fun _ => ?_) (fun z => absurd ((ceq (by repeat (first | with_reducible rfl | with_reducible exact nlit | with_reducible apply nadd | with_reducible apply nmul | with_reducible apply nsub | with_reducible assumption | omega)) (by repeat (first | with_reducible rfl | with_reducible exact nlit | with_reducible apply nadd | with_reducible apply nmul | with_reducible apply nsub | with_reducible assumption | omega)) (by omega) (by omega)).mpr (by omega)) z)
        refine V_bipush (v := (-5)) dX7_readItem_61 (by decide) ?_
        refine V_iret dX7_readItem_63 rfl rfl rfl ?_
        exact bad _ _ _ _ _ hres
      rw [if_neg hT1] at hres
      refine V_icmp_eq dX7_readItem_41 (fun z => absurd z (fun z => absurd ((ceq (by repeat (first | with_reducible rfl | with_reducible exact nlit | with_reducible apply nadd | with_reducible apply nmul | with_reducible apply nsub | with_reducible assumption | omega)) (by repeat (first | with_reducible rfl | with_reducible exact nlit | with_reducible apply nadd | with_reducible apply nmul | with_reducible apply nsub | with_reducible assumption | omega)) (by omega) (by omega)).mp z) (by omega))) (fun _ => ?_)
      refine V_aload_n dX7_readItem_44 rfl ?_
      refine V_bipush (v := 40) dX7_readItem_45 (by decide) ?_
      refine V_callVw dX7_readItem_47 kX7_127 ykX7_takes (by decide) rfl rfl (tX7_takes (C := mTX C 0 p1 vv nn tt) 40 (by decide) h2 hn60 h4 (by omega)) rfl (Nat.le_of_ble_eq_true rfl) ⟨by decide, by decide, by decide, by decide⟩ ?_
      rw [chM_TX, mSp_TX]
      by_cases hc : chM C n p1 = 40
      rotate_left
      · rw [if_neg hc] at hres
        rw [if_neg hc]
        refine V_if_eq dX7_readItem_50 (fun _ => ?_) (fun z => absurd (bI_f hc) z)
        refine V_bipush (v := (-5)) dX7_readItem_61 (by decide) ?_
        refine V_iret dX7_readItem_63 rfl rfl rfl ?_
        exact bad _ _ _ _ _ hres
      have hpn := vB_none c0 (show chM C n p1 ≠ 0 by rw [hc]; decide)
      rw [if_pos hc] at hres
      rw [if_pos hc]
      refine V_if_eq dX7_readItem_50 (fun z => absurd z (bI_ne0.mpr hc)) (fun _ => ?_)
      refine V_aload_n dX7_readItem_53 rfl ?_
      refine V_iconst (v := 1) dX7_readItem_54 (by decide) ?_
      rw [show V G l RX7 "readItem" cX7_readItem 2 (some .int) (rmd 4 0 0) E0 (Qm G (Rit G a C res) sz 0 0) sz 0 0 55 [some (.ref (a + 105)), some (.int (nI T))] [.int 1, .ref (a + 105)] (B G a (mTX C 0 (p1 + 1) vv nn tt)) = V G l RX7 "readItem" cX7_readItem 2 (some .int) (rmd 4 0 0) E0 (Qm G (Rit G a C res) sz 0 0) sz 0 0 55 [some (.ref (a + 105)), some (.int (nI T))] [.int (bI (true = true)), .ref (a + 105)] (B G a (mTX C 0 (p1 + 1) vv nn tt)) from rfl]
      refine V_callVw dX7_readItem_55 kX7_130 ykX7_readStep (by decide) rfl rfl (tX7_readStep (C := C) (n := n) (p := p1 + 1) (s := 0) (vv := vv) (nn := nn) (tt := tt) true hn hn60 (by omega) (by omega)) rfl (Nat.le_of_ble_eq_true rfl) ⟨by decide, by decide, by decide, by decide⟩ ?_
      have l2 := pStp_ok (hs := true) c0 (show p1 + 1 ≤ n by omega)
      rw [pBdy] at hres
      generalize pStp (chM C n) true (p1 + 1) = r2 at hres l2
      obtain ⟨s1, p2⟩ := r2
      cases s1 with
      | none =>
        refine V_if_ne dX7_readItem_58 (fun z => absurd z (fun z => z (bI_f (fun z => z rfl)))) (fun _ => ?_)
        refine V_bipush (v := (-5)) dX7_readItem_61 (by decide) ?_
        refine V_iret dX7_readItem_63 rfl rfl rfl ?_
        exact bad _ _ _ _ _ hres
      | some s1 =>
        obtain ⟨l21, l22, l23⟩ := l2
        obtain ⟨l24, l25⟩ := l23 s1 rfl
        simp only at l21 l22 l24
        refine V_if_ne dX7_readItem_58 (fun _ => ?_) (fun z => absurd z ((bI_ne0.mpr (by simp))))
        exact body T 59 p2 [s1] (upd vv 0 (nI s1.1)) (upd nn 0 (nI s1.2.1)) (upd tt 0 s1.2.2) l21 (by omega) (by show 3 * 1 + 1 ≤ p2; omega) (holdB_add holdB_nil) hres
  · refine V_if_ne dX7_readItem_13 (fun z => absurd z (fun z => z (bI_f hd))) (fun _ => ?_)
    have hr : res = (match pStp (chM C n) false p with | (none, p1) => (none, p1) | (some s, p1) => (some (0, [s]), p1)) := by
      rw [hres]
      unfold pItm
      by_cases hdd : isD (chM C n p)
      · rw [if_pos hdd]
        have hz : chM C n p = 48 := by
          obtain ⟨q1, q2⟩ := hdd
          have : ¬ 0 < dgN (chM C n p) := fun z => hd ⟨⟨q1, q2⟩, z⟩
          unfold dgN at this
          rw [i_le] at q1
          rw [i_eq]
          have e48 : (48 : Int32).toInt = 48 := rfl
          omega
        have e1 : pNum (chM C n) 1 99 p = (none, p) := by
          unfold pNum
          rw [if_neg (fun z => hd ⟨z.1, z.2.resolve_left (by decide)⟩)]
        have e2 : pStp (chM C n) false p = (none, p) := by
          unfold pStp
          rw [hz]
          rfl
        rw [e1, e2]
      · rw [if_neg hdd]
        rfl
    refine V_aload_n dX7_readItem_16 rfl ?_
    refine V_iconst (v := 0) dX7_readItem_17 (by decide) ?_
    rw [show (0 : Int32) = bI (false = true) from rfl]
    refine V_callVw dX7_readItem_18 kX7_130 ykX7_readStep (by decide) rfl rfl (tX7_readStep (C := C) (n := n) (p := p) (s := 0) (vv := vv) (nn := nn) (tt := tt) false hn hn60 hp (by omega)) rfl (Nat.le_of_ble_eq_true rfl) ⟨by decide, by decide, by decide, by decide⟩ ?_
    generalize pStp (chM C n) false p = r1 at hr
    obtain ⟨s1, p1⟩ := r1
    cases s1 with
    | none =>
      refine V_if_eq dX7_readItem_21 (fun _ => ?_) (fun z => absurd (bI_f (fun z => z rfl)) z)
      refine V_bipush (v := (-5)) dX7_readItem_28 (by decide) ?_
      refine V_iret dX7_readItem_30 rfl rfl rfl ?_
      exact bad _ _ _ _ _ hr
    | some s1 =>
      refine V_if_eq dX7_readItem_21 (fun z => absurd z (bI_ne0.mpr (by simp))) (fun _ => ?_)
      refine V_iconst (v := 0) dX7_readItem_24 (by decide) ?_
      refine V_goto dX7_readItem_25 ?_
      refine V_iret dX7_readItem_30 rfl rfl rfl ?_
      rw [hr]
      exact ⟨1, _, _, _, rfl, rfl, fun i hi => by cases hi; exact ⟨rfl, holdB_add holdB_nil⟩⟩
end MODEL
