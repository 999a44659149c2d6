/-! Text: readItem. -/
theorem bdC_e {C : CT} {t q : Nat} : bdC C t [] q = aP (mset C 99 (upd (C 99) t 0)) q := by
  unfold bdC
  show aP (mset (mset (mset (mset C 96 (fil (C 96) (t * 20) (bvF []) 0)) 97 (fil (C 97) (t * 20) (bnF []) 0)) 98 (fil (C 98) (t * 20) (bsF []) 0)) 99 (upd (C 99) t 0)) q = _
  rw [fil_0, fil_0, fil_0, mset_eta, mset_eta, mset_eta]
theorem bdC_i {C : CT} {t q : Nat} {b : List TS} : bdC (mset C 99 (upd (C 99) t 0)) t b q = bdC C t b q := by
  unfold bdC aP
  funext i
  by_cases h3 : i = 93
  · subst h3
    simp (discharger := omega) only [mset_s, mset_n]
  simp (discharger := omega) only [mset_n h3]
  by_cases h9 : i = 99
  · subst h9
    rw [mset_s, mset_s, mset_s, uus]
  simp (discharger := omega) only [mset_n h9, mset_n]
  unfold mset
  simp only [if_neg h9]
/-- item i kept in row t -/
def kiC (C : CT) (t : Nat) (i : Nat × List TS) (q : Nat) : CT := mset (mset (bdC C t i.2 q) 100 (upd (C 100) t (nI i.1))) 95 (upd (C 95) 0 (nI (t + 1)))
def Rki (G : GT) (a : Nat) (C : CT) (t : Nat) (r : Option (Nat × List TS) × Nat) : Option Value → Hp → Prop := fun rr h' => rr = some (.int (bI (r.1 ≠ none))) ∧ (r.1 = none → ∃ b, h' = B G a (bdC C t b r.2)) ∧ ∀ i, r.1 = some i → h' = B G a (kiC C t i r.2)
theorem pNum_21 {ch : Nat → Int32} {hi p : Nat} : pNum ch 2 hi p = pNum ch 1 hi p := by
  unfold pNum
  simp only [show ¬ (2 : Nat) = 0 by decide, show ¬ (1 : Nat) = 0 by decide, false_or]
section CLS
variable {G : GT} {l : Launch} {sz a : Nat} {C : CT}
set_option maxHeartbeats 4000000 in
theorem tX5_readItem {n p t : Nat} {res : Option (Nat × List TS) × Nat} (hres : res = pItm (chC C n) p) (hch : chOK C) (hn : C 93 0 = nI n) (hn60 : n ≤ 60) (hp : C 93 1 = nI p) (hpn : p ≤ n) (ht : C 95 0 = nI t) (ht20 : t < 20) : Ct G l yX5_readItem cX5_readItem 2 (some .boolean) 6 0 0 sz [.ref (a + 93)] (B G a C) (Rki G a C t res) := by
  have c0 : ∀ j, n ≤ j → chC C n j = 0 := chF_0
  have bad : ∀ (b : List TS) (q : Nat), res = (none, q) → Rki G a C t res (some (.int 0)) (B G a (bdC C t b q)) := by
    intro b q hr
    rw [hr]
    exact ⟨rfl, fun _ => ⟨b, rfl⟩, fun i h => by cases h⟩
  refine Ct.of (own := RX5) (mn := "readItem") (L0 := [some (.ref (a + 93)), none]) (by decide +kernel) rfl rfl rfl (Nat.le_of_ble_eq_true rfl) rfl ?_
  refine V_aload_n dX5_readItem_0 rfl ?_
  refine V_bget dX5_readItem_1 fX5_20 (by decide) rfl (by (try simp only [mset_s, mset_n, pk_us, pk_un, ne_eq, Nat.reduceEqDiff, Nat.reduceAdd, not_false_eq_true, not_true_eq_false]) <;> rfl) ?_
  refine V_callVu dX5_readItem_4 kX5_42 ykX3_emptyNext (by decide) rfl rfl (tX3_emptyNext (q := 95) (W := 20) (N := 20) (cnt := t) shkT ht (by omega)) rfl (Nat.le_of_ble_eq_true rfl) ⟨by decide, by decide, by decide, by decide⟩ ?_
  rw [if_pos ht20]
  have e0 : mset C (95 + 4) (upd (C (95 + 4)) t 0) = bdC C t [] p := by rw [bdC_e, aP_id (by rw [mset_n (by decide)]; exact hp)]
  rw [e0]
  have fin : ∀ (T q : Nat) (b : List TS), res = (some (T, b), q) → T < 100 → V G l RX5 "readItem" cX5_readItem 2 (some .boolean) (rmd 6 0 0) E0 (Qm G (Rki G a C t res) sz 0 0) sz 0 0 50 [some (.ref (a + 93)), some (.int (nI T))] [] (B G a (bdC C t b q)) := by
    intro T q b hr hT
    refine V_aload_n dX5_readItem_50 rfl ?_
    refine V_bget dX5_readItem_51 fX5_20 (by decide) rfl (by (try simp only [mset_s, mset_n, pk_us, pk_un, ne_eq, Nat.reduceEqDiff, Nat.reduceAdd, not_false_eq_true, not_true_eq_false]) <;> rfl) ?_
    refine V_iload_n dX5_readItem_54 rfl ?_
    refine V_callVw dX5_readItem_55 kX5_64 ykX3_keepNext (by decide) rfl rfl (tX3_keepNext (q := 95) (W := 20) (N := 20) (cnt := t) shkT (by rw [bdC_n (by omega)]; exact ht) ht20) rfl (Nat.le_of_ble_eq_true rfl) ⟨by decide, by decide, by decide, by decide⟩ ?_
    refine V_pop dX5_readItem_58 rfl ?_
    refine V_iconst (v := 1) dX5_readItem_59 (by decide) ?_
    refine V_zret dX5_readItem_60 rfl rfl rfl rfl ?_
    rw [hr]
    have e1 : mset (mset (bdC C t b q) (95 + 5) (upd (bdC C t b q (95 + 5)) t (nI T))) 95 (upd (bdC C t b q 95) 0 (nI (t + 1))) = kiC C t (T, b) q := by
      unfold kiC
      rw [show bdC C t b q 95 = C 95 from bdC_n (by omega), show bdC C t b q (95 + 5) = C 100 from bdC_n (by omega)]
    rw [e1]
    exact ⟨rfl, (fun (h : (some (T, b) : Option (Nat × List TS)) = none) => by cases h), (fun i (h : some (T, b) = some i) => by cases h; rfl)⟩
  refine V_iconst (v := 0) dX5_readItem_7 (by decide) ?_
  refine V_istore_n dX5_readItem_8 (by decide) (by dsimp only [List.set] <;> rfl) rfl ?_
  refine V_aload_n dX5_readItem_9 rfl ?_
  refine V_callVw dX5_readItem_10 kX5_45 ykX5_next (by decide) rfl rfl (tX5_next (C := bdC C t [] p) (n := n) (p := p) (chOK_bd hch) (by rw [bdC_0]; exact hn) hn60 bdC_1 (by omega)) rfl (Nat.le_of_ble_eq_true rfl) ⟨by decide, by decide, by decide, by decide⟩ ?_
  refine V_callSw dX5_readItem_13 kX5_49 ykX5_digitOf (tX5_digitOf _) rfl (Nat.le_of_ble_eq_true rfl) ⟨by decide, by decide, by decide, by decide⟩ ?_
  rw [chC_bd]
  unfold pItm at hres
  by_cases hd : isD (chC C n p)
  · obtain ⟨d1, d2⟩ := dgN_e hd
    rw [if_pos hd] at hres
    rw [if_pos hd, d1]
    refine V_if_ge dX5_readItem_16 (fun _ => ?_) (fun z => absurd (by rw [i_le]; rw [nI_toInt (by omega)]; have : (0 : Int32).toInt = 0 := rfl; omega) z)
    refine V_aload_n dX5_readItem_29 rfl ?_
    refine V_iconst (v := 2) dX5_readItem_30 (by decide) ?_
    refine V_bipush (v := 99) dX5_readItem_31 (by decide) ?_
    refine V_callVw dX5_readItem_33 kX5_57 ykX5_readNumber (by decide) rfl rfl (tX5_readNumber (C := bdC C t [] p) (n := n) (p := p) (lo := 2) (hi := 99) (chOK_bd hch) (by rw [bdC_0]; exact hn) hn60 bdC_1 (by omega) (by omega) (by omega)) rfl (Nat.le_of_ble_eq_true rfl) ⟨by decide, by decide, by decide, by decide⟩ ?_
    rw [chC_bd, bdC_aP, pNum_21]
    have l1 := pNum_le (lo := 1) (hi := 99) c0 hpn
    have l1x : ∀ x, (pNum (chC C n) 1 99 p).1 = some x → x ≤ 99 ∧ (1 = 0 ∨ 0 < x) := fun x => pNum_hi (by decide)
    generalize pNum (chC C n) 1 99 p = r1 at hres l1 l1x
    obtain ⟨T, p1⟩ := r1
    simp only at hres l1 l1x
    refine V_istore_n dX5_readItem_36 (by decide) (by dsimp only [List.set] <;> rfl) rfl ?_
    refine V_iload_n dX5_readItem_37 rfl ?_
    cases T with
    | none =>
      refine V_if_lt dX5_readItem_38 (fun _ => ?_) (fun z => absurd (show (-1 : Int32) < 0 by decide) z)
      refine V_iconst (v := 0) dX5_readItem_48 (by decide) ?_
      refine V_zret dX5_readItem_49 rfl (by first | rfl | exact bI_nar) rfl rfl ?_
      exact bad [] p1 hres
    | some T =>
      have hT := l1x T rfl
      simp only at hres
      by_cases h1 : T = 1
      · rw [if_pos h1] at hres
        rw [show nuR (some T, p1) 2 = -1 from by show (if 2 ≤ T then nI T else -1) = -1; rw [if_neg (by omega)]]
        refine V_if_lt dX5_readItem_38 (fun _ => ?_) (fun z => absurd (by decide) z)
        refine V_iconst (v := 0) dX5_readItem_48 (by decide) ?_
        refine V_zret dX5_readItem_49 rfl (by first | rfl | exact bI_nar) rfl rfl ?_
        exact bad [] p1 hres
      · rw [if_neg h1] at hres
        rw [show nuR (some T, p1) 2 = nI T from by show (if 2 ≤ T then nI T else -1) = nI T; rw [if_pos (by omega)]]
        refine V_if_lt dX5_readItem_38 (fun z => absurd z (by rw [i_lt]; rw [nI_toInt (by omega)]; have : (0 : Int32).toInt = 0 := rfl; omega)) (fun _ => ?_)
        have hb := tX5_readBody (G := G) (l := l) (sz := sz + 0) (a := a) (C := bdC C t [] p1) (n := n) (p := p1) (t := t) (res := bodyR (chC C n) p1) (by rw [chC_bd]) (chOK_bd hch) (by rw [bdC_0]; exact hn) hn60 bdC_1 l1.1 (by rw [bdC_n (by omega)]; exact ht) ht20 bdC_99
        have er : res = match bodyR (chC C n) p1 with
          | (none, p2) => (none, p2)
          | (some b, p2) => (some (T, b), p2) := by
          rw [hres]
          unfold bodyR
          by_cases h40 : chC C n p1 = 40
          · rw [if_pos h40, if_pos h40]
            rfl
          · rw [if_neg h40, if_neg h40]
        generalize bodyR (chC C n) p1 = r2 at hb er
        obtain ⟨b2, p2⟩ := r2
        refine V_aload_n dX5_readItem_41 rfl ?_
        refine V_callV dX5_readItem_42 kX5_61 ykX5_readBody (B_at (by decide) rfl) rfl hb rfl (Nat.le_of_ble_eq_true rfl) ⟨by decide, by decide, by decide, by decide⟩ ?_
        intro r h' hq
        obtain ⟨b, rfl, rfl, hbb⟩ := hq
        have eb : ∀ b' q', bdC (bdC C t [] p1) t b' q' = bdC C t b' q' := fun b' q' => by
          rw [bdC_e]
          have : ∀ C0 : CT, bdC (aP C0 p1) t b' q' = bdC C0 t b' q' := fun C0 => by
            funext i
            by_cases h3 : i = 93
            · subst h3
              unfold bdC aP
              simp (discharger := omega) only [mset_s, mset_n, uus]
            · unfold bdC aP
              simp (discharger := omega) only [mset_n h3]
              unfold mset
              simp only [if_neg h3]
              rfl
          rw [this, bdC_i]
        rw [eb]
        show V G l RX5 "readItem" cX5_readItem 2 (some .boolean) (rmd 6 0 0) E0 (Qm G (Rki G a C t res) sz 0 0) sz 0 0 45 [some (.ref (a + 93)), some (.int (nI T))] [.int (bI (b2 ≠ none))] (B G a (bdC C t b p2))
        cases b2 with
        | none =>
          refine V_if_ne dX5_readItem_45 (fun z => absurd z (fun z => z rfl)) (fun _ => ?_)
          refine V_iconst (v := 0) dX5_readItem_48 (by decide) ?_
          refine V_zret dX5_readItem_49 rfl (by first | rfl | exact bI_nar) rfl rfl ?_
          exact bad b p2 er
        | some b3 =>
          obtain rfl : b3 = b := hbb b3 rfl
          refine V_if_ne dX5_readItem_45 (fun _ => ?_) (fun z => absurd z ((bI_ne0.mpr (by simp))))
          exact fin T p2 b3 er (by omega)
  · rw [if_neg hd] at hres
    rw [if_neg hd]
    refine V_if_ge dX5_readItem_16 (fun z => absurd z (show ¬ (0 : Int32) ≤ -1 by decide)) (fun _ => ?_)
    have st := tX5_readStep (G := G) (l := l) (sz := sz + 0) (a := a) (C := bdC C t [] p) (n := n) (p := p) (t := t) (s := 0) (res := pStp (chC C n) false p) false (by rw [chC_bd]) (chOK_bd hch) (by rw [bdC_0]; exact hn) hn60 bdC_1 hpn (by rw [bdC_n (by omega)]; exact ht) ht20 bdC_99 (by omega)
    rw [show bI (false = true) = 0 from rfl] at st
    generalize pStp (chC C n) false p = r1 at hres st
    obtain ⟨y, q1⟩ := r1
    refine V_aload_n dX5_readItem_19 rfl ?_
    refine V_iconst (v := 0) dX5_readItem_20 (by decide) ?_
    refine V_callVw dX5_readItem_21 kX5_53 ykX5_readStep (by decide) rfl rfl st rfl (Nat.le_of_ble_eq_true rfl) ⟨by decide, by decide, by decide, by decide⟩ ?_
    cases y with
    | none =>
      refine V_if_ne dX5_readItem_24 (fun z => absurd z (fun z => z rfl)) (fun _ => ?_)
      refine V_iconst (v := 0) dX5_readItem_27 (by decide) ?_
      refine V_zret dX5_readItem_28 rfl (by first | rfl | exact bI_nar) rfl rfl ?_
      simp only at hres
      have := bad [] q1 hres
      rw [← bdC_aP (q := p)] at this
      exact this
    | some y =>
      simp only at hres
      refine V_if_ne dX5_readItem_24 (fun _ => ?_) (fun z => absurd z ((bI_ne0.mpr (by simp))))
      have := bdC_s (C := C) (t := t) (q := p) (q' := q1) (b := []) (y := y)
      rw [show rsC (bdC C t [] p) t 0 (some y, q1) = bdC C t [y] q1 from this]
      exact fin 0 q1 [y] hres (by omega)
end CLS
