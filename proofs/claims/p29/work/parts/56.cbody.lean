/-! Text: readBody. -/
theorem fil_cg {f v v' : Nat → Int32} {b k : Nat} (h : ∀ i, i < k → v i = v' i) : fil f b v k = fil f b v' k := by
  funext j
  unfold fil
  by_cases hj : b ≤ j ∧ j < b + k
  · rw [if_pos hj, if_pos hj, h _ (by omega)]
  · rw [if_neg hj, if_neg hj]
theorem bF_app {b : List TS} {y : TS} {k : Nat} (h : k < b.length) : (b ++ [y]).getD k (0, 0, 0) = b.getD k (0, 0, 0) := by
  simp [List.getD, List.getElem?_append_left h]
theorem bF_end {b : List TS} {y : TS} : (b ++ [y]).getD b.length (0, 0, 0) = y := by
  simp [List.getD]
/-- row t of the items under way: the steps of b; the place q -/
def bdC (C : CT) (t : Nat) (b : List TS) (q : Nat) : CT := aP (mset (mset (mset (mset C 96 (fil (C 96) (t * 20) (bvF b) b.length)) 97 (fil (C 97) (t * 20) (bnF b) b.length)) 98 (fil (C 98) (t * 20) (bsF b) b.length)) 99 (upd (C 99) t (nI b.length))) q
theorem bdC_n {C : CT} {t q i : Nat} {b : List TS} (h : i < 93 ∨ i = 94 ∨ i = 95 ∨ 99 < i) : bdC C t b q i = C i := by
  unfold bdC
  rw [aP_n (by omega), mset_n (by omega), mset_n (by omega), mset_n (by omega), mset_n (by omega)]
theorem bdC_0 {C : CT} {t q : Nat} {b : List TS} : bdC C t b q 93 0 = C 93 0 := by
  unfold bdC
  rw [aP_0, mset_n (by decide), mset_n (by decide), mset_n (by decide), mset_n (by decide)]
theorem bdC_1 {C : CT} {t q : Nat} {b : List TS} : bdC C t b q 93 1 = nI q := by unfold bdC; exact aP_1
theorem bdC_99 {C : CT} {t q : Nat} {b : List TS} : bdC C t b q 99 t = nI b.length := by
  unfold bdC
  rw [aP_n (by decide), mset_s, pk_us]
theorem bdC_aP {C : CT} {t q q' : Nat} {b : List TS} : aP (bdC C t b q) q' = bdC C t b q' := by unfold bdC; exact aP_aP
theorem bdC_nil {C : CT} {t q : Nat} (h1 : C 93 1 = nI q) (h : C 99 t = 0) : bdC C t [] q = C := by
  unfold bdC
  show aP (mset (mset (mset (mset C 96 (fil (C 96) (t * 20) (bvF []) 0)) 97 (fil (C 97) (t * 20) (bnF []) 0)) 98 (fil (C 98) (t * 20) (bsF []) 0)) 99 (upd (C 99) t 0)) q = C
  rw [fil_0, fil_0, fil_0, mset_eta, mset_eta, mset_eta, ← h, u_eta, mset_eta, aP_id h1]
theorem bdC_s {C : CT} {t q q' : Nat} {b : List TS} {y : TS} : rsC (bdC C t b q) t b.length (some y, q') = bdC C t (b ++ [y]) q' := by
  have e1 : fil (C 96) (t * 20) (bvF (b ++ [y])) (b ++ [y]).length = upd (fil (C 96) (t * 20) (bvF b) b.length) (t * 20 + b.length) (nI y.1) := by
    rw [List.length_append, List.length_singleton, ← fil_s, fil_cg (v := bvF (b ++ [y])) (v' := bvF b) (fun i hi => by unfold bvF; rw [bF_app hi])]
    congr 1
    unfold bvF
    rw [bF_end]
  have e2 : fil (C 97) (t * 20) (bnF (b ++ [y])) (b ++ [y]).length = upd (fil (C 97) (t * 20) (bnF b) b.length) (t * 20 + b.length) (nI y.2.1) := by
    rw [List.length_append, List.length_singleton, ← fil_s, fil_cg (v := bnF (b ++ [y])) (v' := bnF b) (fun i hi => by unfold bnF; rw [bF_app hi])]
    congr 1
    unfold bnF
    rw [bF_end]
  have e3 : fil (C 98) (t * 20) (bsF (b ++ [y])) (b ++ [y]).length = upd (fil (C 98) (t * 20) (bsF b) b.length) (t * 20 + b.length) y.2.2 := by
    rw [List.length_append, List.length_singleton, ← fil_s, fil_cg (v := bsF (b ++ [y])) (v' := bsF b) (fun i hi => by unfold bsF; rw [bF_app hi])]
    congr 1
    unfold bsF
    rw [bF_end]
  show apS (aP (bdC C t b q) q') 95 20 t b.length (nI y.1) (nI y.2.1) y.2.2 = _
  rw [bdC_aP]
  have r96 : bdC C t b q' 96 = fil (C 96) (t * 20) (bvF b) b.length := by unfold bdC; rw [aP_n (by decide), mset_n (by decide), mset_n (by decide), mset_n (by decide), mset_s]
  have r97 : bdC C t b q' 97 = fil (C 97) (t * 20) (bnF b) b.length := by unfold bdC; rw [aP_n (by decide), mset_n (by decide), mset_n (by decide), mset_s]
  have r98 : bdC C t b q' 98 = fil (C 98) (t * 20) (bsF b) b.length := by unfold bdC; rw [aP_n (by decide), mset_n (by decide), mset_s]
  have r99 : bdC C t b q' 99 = upd (C 99) t (nI b.length) := by unfold bdC; rw [aP_n (by decide), mset_s]
  have r93 : ∀ b', bdC C t b' q' 93 = upd (C 93) 1 (nI q') := fun b' => by unfold bdC aP; rw [mset_s, mset_n (by decide), mset_n (by decide), mset_n (by decide), mset_n (by decide)]
  have n96 : bdC C t (b ++ [y]) q' 96 = fil (C 96) (t * 20) (bvF (b ++ [y])) (b ++ [y]).length := by unfold bdC; rw [aP_n (by decide), mset_n (by decide), mset_n (by decide), mset_n (by decide), mset_s]
  have n97 : bdC C t (b ++ [y]) q' 97 = fil (C 97) (t * 20) (bnF (b ++ [y])) (b ++ [y]).length := by unfold bdC; rw [aP_n (by decide), mset_n (by decide), mset_n (by decide), mset_s]
  have n98 : bdC C t (b ++ [y]) q' 98 = fil (C 98) (t * 20) (bsF (b ++ [y])) (b ++ [y]).length := by unfold bdC; rw [aP_n (by decide), mset_n (by decide), mset_s]
  have n99 : bdC C t (b ++ [y]) q' 99 = upd (C 99) t (nI (b ++ [y]).length) := by unfold bdC; rw [aP_n (by decide), mset_s]
  funext i
  unfold apS
  by_cases h9 : i = 99
  · subst h9
    rw [mset_s, n99]
    show upd (bdC C t b q' 99) t (nI (b.length + 1)) = _
    rw [r99, uus, List.length_append]
    rfl
  rw [mset_n h9]
  by_cases h8 : i = 98
  · subst h8
    rw [mset_s, n98, e3]
    show upd (bdC C t b q' 98) _ _ = _
    rw [r98]
  rw [mset_n h8]
  by_cases h7 : i = 97
  · subst h7
    rw [mset_s, n97, e2]
    show upd (bdC C t b q' 97) _ _ = _
    rw [r97]
  rw [mset_n h7]
  by_cases h6 : i = 96
  · subst h6
    rw [mset_s, n96, e1]
    show upd (bdC C t b q' 96) _ _ = _
    rw [r96]
  rw [mset_n h6]
  by_cases h3 : i = 93
  · rw [h3, r93, r93]
  · rw [bdC_n (by omega), bdC_n (by omega)]
theorem chC_bd {C : CT} {t q n : Nat} {b : List TS} : chC (bdC C t b q) n = chC C n := by
  show chF (bdC C t b q 94) n = chF (C 94) n
  rw [bdC_n (by omega)]
theorem chOK_bd {C : CT} {t q : Nat} {b : List TS} (h : chOK C) : chOK (bdC C t b q) := fun j => by rw [bdC_n (by omega)]; exact h j
def bodyR (ch : Nat → Int32) (p : Nat) : Option (List TS) × Nat := if ch p = 40 then pBdy ch 60 (p + 1) [] else (none, p)
/-- what reading a body into row t leaves -/
def Rbd (G : GT) (a : Nat) (C : CT) (t : Nat) (r : Option (List TS) × Nat) : Option Value → Hp → Prop := fun rr h' => ∃ b, rr = some (.int (bI (r.1 ≠ none))) ∧ h' = B G a (bdC C t b r.2) ∧ ∀ b', r.1 = some b' → b' = b
section CLS
variable {G : GT} {l : Launch} {sz a : Nat} {C : CT}
set_option maxHeartbeats 4000000 in
theorem tX5_readBody {n p t : Nat} {res : Option (List TS) × Nat} (hres : res = bodyR (chC C n) p) (hch : chOK C) (hn : C 93 0 = nI n) (hn60 : n ≤ 60) (hp : C 93 1 = nI p) (hpn : p ≤ n) (ht : C 95 0 = nI t) (ht20 : t < 20) (hsz : C 99 t = 0) : Ct G l yX5_readBody cX5_readBody 2 (some .boolean) 5 0 0 sz [.ref (a + 93)] (B G a C) (Rbd G a C t res) := by
  have c0 : ∀ j, n ≤ j → chC C n j = 0 := chF_0
  have bad : ∀ (b : List TS) (q : Nat), res = (none, q) → Rbd G a C t res (some (.int 0)) (B G a (bdC C t b q)) := by
    intro b q hr
    rw [hr]
    exact ⟨b, rfl, rfl, fun b' h => by cases h⟩
  refine Ct.of (own := RX5) (mn := "readBody") (L0 := [some (.ref (a + 93)), none]) (by decide +kernel) rfl rfl rfl (Nat.le_of_ble_eq_true rfl) rfl ?_
  refine V_aload_n dX5_readBody_0 rfl ?_
  refine V_bipush (v := 40) dX5_readBody_1 (by decide) ?_
  refine V_callVw dX5_readBody_3 kX5_38 ykX5_take (by decide) rfl rfl (tX5_take (c := 40) hch hn hn60 hp (by omega)) rfl (Nat.le_of_ble_eq_true rfl) ⟨by decide, by decide, by decide, by decide⟩ ?_
  unfold bodyR at hres
  by_cases h40 : chC C n p = 40
  · rw [if_pos h40] at hres
    rw [if_pos h40]
    have hpn1 := vB_none c0 (show chC C n p ≠ 0 by rw [h40]; decide)
    refine V_if_ne dX5_readBody_6 (fun _ => ?_) (fun z => absurd z ((bI_ne0.mpr h40)))
    refine V_iconst (v := 0) dX5_readBody_11 (by decide) ?_
    refine V_istore_n dX5_readBody_12 (by decide) (by dsimp only [List.set] <;> rfl) rfl ?_
    have key : ∀ (f i q : Nat) (b : List TS), i + f = 60 → q ≤ n → 3 * b.length + 1 ≤ q → res = pBdy (chC C n) f q b → V G l RX5 "readBody" cX5_readBody 2 (some .boolean) (rmd 5 0 0) E0 (Qm G (Rbd G a C t res) sz 0 0) sz 0 0 13 [some (.ref (a + 93)), some (.int (nI i))] [] (B G a (bdC C t b q)) := by
      intro f
      induction f with
      | zero =>
        intro i q b hi hq hb hr
        obtain rfl : i = 60 := by omega
        refine V_iload_n dX5_readBody_13 rfl ?_
        refine V_bipush (v := 60) dX5_readBody_14 (by decide) ?_
        refine V_icmp_ge dX5_readBody_16 (fun _ => ?_) (fun z => absurd ((cle (by repeat (first | with_reducible rfl | with_reducible exact nlit | with_reducible apply nadd | with_reducible apply nmul | with_reducible apply nsub | with_reducible assumption | omega)) (by repeat (first | with_reducible rfl | with_reducible exact nlit | with_reducible apply nadd | with_reducible apply nmul | with_reducible apply nsub | with_reducible assumption | omega)) (by omega) (by omega)).mpr (by omega)) z)
        refine V_iconst (v := 0) dX5_readBody_51 (by decide) ?_
        refine V_zret dX5_readBody_52 rfl (by first | rfl | exact bI_nar) rfl rfl ?_
        exact bad b q hr
      | succ f ih =>
        intro i q b hi hq hb hr
        have st := tX5_readStep (G := G) (l := l) (sz := sz + 0) (a := a) (C := bdC C t b q) (n := n) (p := q) (t := t) (s := b.length) (res := pStp (chC C n) true q) true (by rw [chC_bd]) (chOK_bd hch) (by rw [bdC_0]; exact hn) hn60 bdC_1 hq (by rw [bdC_n (by omega)]; exact ht) ht20 bdC_99 (by omega)
        rw [pBdy] at hr
        have h1 := pStp_ok (hs := true) c0 hq
        generalize pStp (chC C n) true q = r1 at hr st h1
        obtain ⟨y, q1⟩ := r1
        simp only at hr h1
        refine V_iload_n dX5_readBody_13 rfl ?_
        refine V_bipush (v := 60) dX5_readBody_14 (by decide) ?_
        refine V_icmp_ge dX5_readBody_16 (fun z => absurd z (fun z => absurd ((cle (by repeat (first | with_reducible rfl | with_reducible exact nlit | with_reducible apply nadd | with_reducible apply nmul | with_reducible apply nsub | with_reducible assumption | omega)) (by repeat (first | with_reducible rfl | with_reducible exact nlit | with_reducible apply nadd | with_reducible apply nmul | with_reducible apply nsub | with_reducible assumption | omega)) (by omega) (by omega)).mp z) (by omega))) (fun _ => ?_)
        refine V_aload_n dX5_readBody_19 rfl ?_
        refine V_iconst (v := 1) dX5_readBody_20 (by decide) ?_
        rw [show bI (true = true) = 1 from rfl] at st
        refine V_callVw dX5_readBody_21 kX5_53 ykX5_readStep (by decide) rfl rfl st rfl (Nat.le_of_ble_eq_true rfl) ⟨by decide, by decide, by decide, by decide⟩ ?_
        cases y with
        | none =>
          refine V_if_ne dX5_readBody_24 (fun z => absurd z (fun z => z rfl)) (fun _ => ?_)
          refine V_iconst (v := 0) dX5_readBody_27 (by decide) ?_
          refine V_zret dX5_readBody_28 rfl (by first | rfl | exact bI_nar) rfl rfl ?_
          simp only at hr
          have := bad b q1 hr
          rw [← bdC_aP (q := q)] at this
          exact this
        | some y =>
          simp only at hr
          obtain ⟨h2, h3, h4⟩ := h1
          have h5 := (h4 y rfl).1
          rw [bdC_s]
          refine V_if_ne dX5_readBody_24 (fun _ => ?_) (fun z => absurd z ((bI_ne0.mpr (by simp))))
          refine V_aload_n dX5_readBody_29 rfl ?_
          refine V_bipush (v := 44) dX5_readBody_30 (by decide) ?_
          refine V_callVw dX5_readBody_32 kX5_38 ykX5_take (by decide) rfl rfl (tX5_take (C := bdC C t (b ++ [y]) q1) (n := n) (p := q1) (c := 44) (chOK_bd hch) (by rw [bdC_0]; exact hn) hn60 bdC_1 (by omega)) rfl (Nat.le_of_ble_eq_true rfl) ⟨by decide, by decide, by decide, by decide⟩ ?_
          rw [chC_bd, bdC_aP]
          have hl : (b ++ [y]).length = b.length + 1 := by simp
          by_cases h44 : chC C n q1 = 44
          · have hq1 := vB_none c0 (show chC C n q1 ≠ 0 by rw [h44]; decide)
            rw [if_pos h44] at hr
            rw [if_pos h44]
            refine V_if_ne dX5_readBody_35 (fun _ => ?_) (fun z => absurd z ((bI_ne0.mpr h44)))
            refine V_iinc dX5_readBody_45 rfl (ninc _) (by decide) (by dsimp only [List.set] <;> rfl) ?_
            refine V_goto dX5_readBody_48 ?_
            exact ih (i + 1) (q1 + 1) (b ++ [y]) (by omega) (by omega) (by omega) hr
          · rw [if_neg h44] at hr
            rw [if_neg h44]
            refine V_if_ne dX5_readBody_35 (fun z => absurd z (fun z => z (bI_f h44))) (fun _ => ?_)
            refine V_aload_n dX5_readBody_38 rfl ?_
            refine V_bipush (v := 41) dX5_readBody_39 (by decide) ?_
            refine V_callVw dX5_readBody_41 kX5_38 ykX5_take (by decide) rfl rfl (tX5_take (C := bdC C t (b ++ [y]) q1) (n := n) (p := q1) (c := 41) (chOK_bd hch) (by rw [bdC_0]; exact hn) hn60 bdC_1 (by omega)) rfl (Nat.le_of_ble_eq_true rfl) ⟨by decide, by decide, by decide, by decide⟩ ?_
            rw [chC_bd, bdC_aP]
            by_cases h41 : chC C n q1 = 41
            · rw [if_pos h41] at hr
              rw [if_pos h41]
              refine V_zret dX5_readBody_44 rfl (by first | rfl | exact bI_nar) rfl rfl ?_
              rw [hr]
              exact ⟨b ++ [y], by rw [bI_t h41]; rfl, rfl, fun b' h => by cases h; rfl⟩
            · rw [if_neg h41] at hr
              rw [if_neg h41]
              refine V_zret dX5_readBody_44 rfl (by first | rfl | exact bI_nar) rfl rfl ?_
              have := bad (b ++ [y]) q1 hr
              rw [bI_f h41]
              exact this
    have k0 := key 60 0 (p + 1) [] (by omega) (by omega) (by simp) hres
    have e0 : bdC C t [] (p + 1) = aP C (p + 1) := by
      have := bdC_nil (C := aP C (p + 1)) (t := t) (q := p + 1) aP_1 (by rw [aP_n (by decide)]; exact hsz)
      rw [← this]
      have e1 : ∀ b, bdC (aP C (p + 1)) t b (p + 1) = bdC C t b (p + 1) := by
        intro b
        funext i
        by_cases h3 : i = 93
        · subst h3
          unfold bdC aP
          simp (discharger := omega) only [mset_s, mset_n, uus]
        · unfold bdC aP
          simp (discharger := omega) only [mset_n h3]
          unfold mset
          simp only [if_neg h3]
          rfl
      rw [e1]
    rw [e0] at k0
    exact k0
  · rw [if_neg h40] at hres
    rw [if_neg h40]
    refine V_if_ne dX5_readBody_6 (fun z => absurd z (fun z => z (bI_f h40))) (fun _ => ?_)
    refine V_iconst (v := 0) dX5_readBody_9 (by decide) ?_
    refine V_zret dX5_readBody_10 rfl (by first | rfl | exact bI_nar) rfl rfl ?_
    have := bad [] p hres
    rw [bdC_nil hp hsz] at this
    exact this
end CLS
