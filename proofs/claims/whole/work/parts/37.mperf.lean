/-! What a program does; readText, perform of TryLoopsModel. -/
/-- cells, hand, steps done, tests failed, plays, latest reason -/
abbrev XS : Type := (Nat → Int32) × Nat × Int32 × Int32 × Int32 × Int32
def bvF (b : List TS) (k : Nat) : Int32 := nI ((b.getD k (0, 0, 0)).1)
def bnF (b : List TS) (k : Nat) : Int32 := nI ((b.getD k (0, 0, 0)).2.1)
def bsF (b : List TS) (k : Nat) : Int32 := (b.getD k (0, 0, 0)).2.2
def plI (i : Nat × List TS) (X : XS) : PS × Int32 := plBody (bvF i.2) (bnF i.2) (bsF i.2) i.2.length i.1 0 (X.1, X.2.1, 0, 0)
def exI (X : XS) (i : Nat × List TS) : XS :=
  if i.1 = 0 then ((rowStep X.1 X.2.1 (bvF i.2 0) (i.2.getD 0 (0, 0, 0)).2.1).1, (rowStep X.1 X.2.1 (bvF i.2 0) (i.2.getD 0 (0, 0, 0)).2.1).2, X.2.2.1 + 1, X.2.2.2.1 + (if pStep X.1 X.2.1 (bvF i.2 0) (i.2.getD 0 (0, 0, 0)).2.1 then 0 else 1), X.2.2.2.2.1, X.2.2.2.2.2)
  else ((plI i X).1.1, (plI i X).1.2.1, X.2.2.1 + (plI i X).1.2.2.1, X.2.2.2.1 + f2 (plI i X).2, X.2.2.2.2.1 + 1, (plI i X).2)
def exL (X : XS) (l : List (Nat × List TS)) : XS := l.foldl exI X
theorem holdB_get {v n t : Nat → Int32} {b : List TS} (h : holdB v n t b) {k : Nat} (hk : k < b.length) : v k = bvF b k ∧ n k = bnF b k ∧ t k = bsF b k := by
  have e : b[k]? = some (b.getD k (0, 0, 0)) := by simp [List.getD, hk]
  exact h k _ e
theorem ts_get {b : List TS} (h : ∀ s ∈ b, tsOK s) {k : Nat} (hk : k < b.length) : tsOK (b.getD k (0, 0, 0)) := by
  have e : b[k]? = some (b.getD k (0, 0, 0)) := by simp [List.getD, hk]
  exact h _ (List.mem_of_getElem? e)
def zXS (z0 : Nat → Int32) (X : XS) : Nat → Int32 := upd (upd (zOf z0 X.1 X.2.1 X.2.2.1 X.2.2.2.1) 36 (z0 36 + X.2.2.2.2.1)) 37 X.2.2.2.2.2
theorem zXS_c {z0 : Nat → Int32} {X : XS} {j : Nat} (h : j < 30) : zXS z0 X j = X.1 j := by unfold zXS; rw [pk_un (by omega), pk_un (by omega), zOf_c h]
theorem zXS_30 {z0 : Nat → Int32} {X : XS} : zXS z0 X 30 = nI X.2.1 := by unfold zXS; rw [pk_un (by decide), pk_un (by decide), zOf_30]
theorem zXS_34 {z0 : Nat → Int32} {X : XS} : zXS z0 X 34 = z0 34 + X.2.2.1 := by unfold zXS; rw [pk_un (by decide), pk_un (by decide), zOf_34]
theorem zXS_35 {z0 : Nat → Int32} {X : XS} : zXS z0 X 35 = z0 35 + X.2.2.2.1 := by unfold zXS; rw [pk_un (by decide), pk_un (by decide), zOf_35]
theorem zXS_36 {z0 : Nat → Int32} {X : XS} : zXS z0 X 36 = z0 36 + X.2.2.2.2.1 := by unfold zXS; rw [pk_un (by decide), pk_us]
theorem zXS_37 {z0 : Nat → Int32} {X : XS} : zXS z0 X 37 = X.2.2.2.2.2 := by unfold zXS; rw [pk_us]
theorem zXS_n {z0 : Nat → Int32} {X : XS} {j : Nat} (h : 30 < j) (h4 : j ≠ 34) (h5 : j ≠ 35) (h6 : j ≠ 36) (h7 : j ≠ 37) : zXS z0 X j = z0 j := by unfold zXS; rw [pk_un h7, pk_un h6, zOf_n h h4 h5]
theorem zXS_0 {z0 c : Nat → Int32} {hd : Nat} (hc : ∀ j, j < 30 → z0 j = c j) (h30 : z0 30 = nI hd) : zXS z0 (c, hd, 0, 0, 0, z0 37) = z0 := by
  unfold zXS
  simp only
  rw [zOf_0 hc h30, i_add0, u_eta, u_eta]
/-- a row of numbers by what it holds below, at the counters, and elsewhere -/
theorem z_ext {f g : Nat → Int32} (hc : ∀ j, j < 30 → f j = g j) (h0 : f 30 = g 30) (h4 : f 34 = g 34) (h5 : f 35 = g 35) (h6 : f 36 = g 36) (h7 : f 37 = g 37) (hn : ∀ j, 30 < j → j ≠ 34 → j ≠ 35 → j ≠ 36 → j ≠ 37 → f j = g j) : f = g := by
  funext j
  by_cases a1 : j < 30
  · exact hc j a1
  by_cases a2 : j = 30
  · rw [a2, h0]
  by_cases a3 : j = 34
  · rw [a3, h4]
  by_cases a4 : j = 35
  · rw [a4, h5]
  by_cases a5 : j = 36
  · rw [a5, h6]
  by_cases a6 : j = 37
  · rw [a6, h7]
  exact hn j (by omega) a3 a4 a5 a6
theorem zXS_step {z0 : Nat → Int32} {X : XS} {v : Int32} {m : Nat} (hhd : X.2.1 < 30) (hm : v = 3 ∨ v = 4 → m < 30) : zStep (zXS z0 X) X.2.1 v m = zXS z0 ((rowStep X.1 X.2.1 v m).1, (rowStep X.1 X.2.1 v m).2, X.2.2.1 + 1, X.2.2.2.1 + (if pStep X.1 X.2.1 v m then 0 else 1), X.2.2.2.2.1, X.2.2.2.2.2) := by
  have e : zXS z0 X = zOf (zXS z0 X) X.1 X.2.1 0 0 := (zOf_0 (fun j hj => zXS_c hj) zXS_30).symm
  rw [e, zStep_zOf hhd hm]
  refine z_ext (fun j hj => ?_) ?_ ?_ ?_ ?_ ?_ (fun j a1 a2 a3 a4 a5 => ?_)
  · rw [zOf_c hj, zXS_c hj]
  · rw [zOf_30, zXS_30]
  · rw [zOf_34, zXS_34, zXS_34, Int32.zero_add, Int32.add_assoc]
  · rw [zOf_35, zXS_35, zXS_35, Int32.zero_add, Int32.add_assoc]
  · rw [zOf_n (by decide) (by decide) (by decide), zXS_36, zXS_36]
  · rw [zOf_n (by decide) (by decide) (by decide), zXS_37, zXS_37]
  · rw [zOf_n a1 a2 a3, zXS_n a1 a2 a3 a4 a5, zXS_n a1 a2 a3 a4 a5]
theorem zXS_play {z0 : Nat → Int32} {X : XS} {P : PS × Int32} : zPl (zXS z0 X) P 0 = zXS z0 (P.1.1, P.1.2.1, X.2.2.1 + P.1.2.2.1, X.2.2.2.1 + f2 P.2, X.2.2.2.2.1 + 1, P.2) := by
  unfold zPl
  refine z_ext (fun j hj => ?_) ?_ ?_ ?_ ?_ ?_ (fun j a1 a2 a3 a4 a5 => ?_)
  · rw [pk_un (by omega), pk_un (by omega), zPS_c hj, zXS_c hj]
  · rw [pk_un (by decide), pk_un (by decide), zPS_30, zXS_30]
  · rw [pk_un (by decide), pk_un (by decide), zPS_34, zXS_34, zXS_34, Int32.add_assoc]
  · rw [pk_un (by decide), pk_un (by decide), zPS_35, zXS_35, zXS_35, Int32.zero_add, Int32.add_assoc]
  · rw [pk_un (by decide), pk_us, zXS_36, zXS_36, Int32.add_assoc]
  · rw [pk_us, zXS_37]
  · rw [pk_un a5, pk_un a4, zPS_n j a1 a2 a3, zXS_n a1 a2 a3 a4 a5, zXS_n a1 a2 a3 a4 a5]
theorem exI_hd {X : XS} {i : Nat × List TS} (hX : X.2.1 < 30) (hi : itOK i) : (exI X i).2.1 < 30 := by
  unfold exI
  by_cases h0 : i.1 = 0
  · rw [if_pos h0]
    have h1 : 0 < i.2.length := by rcases hi.1 with q | q <;> omega
    have ht := ts_get hi.2 h1
    obtain ⟨t1, t2⟩ := ht
    show (rowStep X.1 X.2.1 (bvF i.2 0) (i.2.getD 0 (0, 0, 0)).2.1).2 < 30
    unfold rowStep
    split
    · rename_i hv
      have : (i.2.getD 0 (0, 0, 0)).1 = 0 := (ceq rfl nlit (by omega) (by omega)).mp hv
      unfold gM at t2
      rw [if_pos (Or.inl this)] at t2
      show (i.2.getD 0 (0, 0, 0)).2.1 < 30
      omega
    split
    · exact hX
    split
    · exact hX
    split
    · exact hX
    split <;> exact hX
  · rw [if_neg h0]
    exact plBody_hd _ _ _ hX
theorem pTxt_ok {ch : Nat → Int32} {n : Nat} (h : ∀ j, n ≤ j → ch j = 0) (hn : n ≤ 60) : ∀ (f p : Nat) (acc l : List (Nat × List TS)), p ≤ n → (pTxt ch n f p acc).1 = some l → ∃ l2, l = acc ++ l2 ∧ ∀ i ∈ l2, itOK i := by
  intro f
  induction f with
  | zero => intro p acc l hp hl; cases hl
  | succ f ih =>
    intro p acc l hp hl
    rw [pTxt] at hl
    have h1 := pItm_ok h hp hn
    generalize pItm ch p = r at h1 hl
    obtain ⟨i, p1⟩ := r
    cases i with
    | none => cases hl
    | some i =>
      obtain ⟨h11, h12, h13⟩ := h1
      obtain ⟨h14, h15⟩ := h13 i rfl
      simp only at hl
      by_cases hc : ch p1 = 59
      · rw [if_pos hc] at hl
        have hp1 := vB_none h (show ch p1 ≠ 0 by rw [hc]; decide)
        obtain ⟨l2, e1, e2⟩ := ih (p1 + 1) (acc ++ [i]) l (by omega) hl
        refine ⟨i :: l2, by rw [e1, List.append_assoc]; rfl, fun j hj => ?_⟩
        rcases List.mem_cons.mp hj with q | q
        · rw [q]; exact h15
        · exact e2 j q
      · rw [if_neg hc] at hl
        by_cases hd : p1 = n
        · rw [if_pos hd] at hl
          cases hl
          exact ⟨[i], rfl, fun j hj => by rw [List.mem_singleton.mp hj]; exact h15⟩
        · rw [if_neg hd] at hl
          cases hl
theorem mTX_z {C : CT} {s p : Nat} {v n t z : Nat → Int32} : mset (mTX C s p v n t) 106 z = mTX (mset C 106 z) s p v n t := by
  funext i; unfold mset mTX
  by_cases h : i = 106
  · subst h; simp
  · simp [h]
theorem mTX_zz {C : CT} {s p : Nat} {v n t z z' : Nat → Int32} : mTX (mset (mset C 106 z) 106 z') s p v n t = mTX (mset C 106 z') s p v n t := by rw [mset_ss]
/-- what reading a text leaves -/
def Rtx (G : GT) (a : Nat) (C : CT) (z : Nat → Int32) (r : Option (List (Nat × List TS)) × Nat) : Option Value → Hp → Prop := fun rr h' => ∃ (s : Nat) (v n t : Nat → Int32), rr = some (.int (bI (r.1 ≠ none))) ∧ h' = B G a (mTX (mset C 106 z) s r.2 v n t)
section MODEL
variable {G : GT} {l : Launch} {sz a : Nat} {C : CT}
set_option maxHeartbeats 4000000 in
theorem tX7_readText {n s0 p0 : Nat} {z0 vv nn tt : Nat → Int32} {X0 : XS} {res : Option (List (Nat × List TS)) × Nat} (dn : Bool) (hres : res = pTxt (chM C n) n 60 0 []) (hn : C 105 2 = nI n) (hn60 : n ≤ 60) (hX0 : X0.2.1 < 30) (hdn : dn = true → res.1 ≠ none) : Ct G l yX7_readText cX7_readText 4 (some .boolean) 5 0 0 sz [.ref (a + 105), .int (bI (dn = true))] (B G a (mTX (mset C 106 (zXS z0 X0)) s0 p0 vv nn tt)) (Rtx G a C (zXS z0 (if dn = true then exL X0 (res.1.getD []) else X0)) res) := by
  have c0 : ∀ j, n ≤ j → chM C n j = 0 := chF_0
  have h2 : ∀ {z : Nat → Int32} {s p : Nat} {vv nn tt : Nat → Int32}, mTX (mset C 106 z) s p vv nn tt 105 2 = nI n := hn
  have h4 : ∀ {z : Nat → Int32} {s p : Nat} {vv nn tt : Nat → Int32}, mTX (mset C 106 z) s p vv nn tt 105 4 = nI p := rfl
  refine Ct.of (own := RX7) (mn := "readText") (L0 := [some (.ref (a + 105)), some (.int (bI (dn = true))), none, none]) (by decide +kernel) rfl rfl rfl (Nat.le_of_ble_eq_true rfl) rfl ?_
  have bad : ∀ (q s1 : Nat) (v1 n1 t1 : Nat → Int32) (X : XS), (dn = true → False) → X = X0 → res = (none, q) → Rtx G a C (zXS z0 (if dn = true then exL X0 (res.1.getD []) else X0)) res (some (.int 0)) (B G a (mTX (mset C 106 (zXS z0 X)) s1 q v1 n1 t1)) := by
    intro q s1 v1 n1 t1 X h1 h2 hr
    rw [if_neg h1, h2, hr]
    exact ⟨s1, v1, n1, t1, rfl, rfl⟩
  have key : ∀ (f p s1 : Nat) (v1 n1 t1 : Nat → Int32) (acc : List (Nat × List TS)) (L3 : Option Value), p ≤ n → ((p = 0 ∧ f = 60) ∨ n < p + f) → res = pTxt (chM C n) n f p acc → (dn = true → (exL X0 acc).2.1 < 30) → V G l RX7 "readText" cX7_readText 4 (some .boolean) (rmd 5 0 0) E0 (Qm G (Rtx G a C (zXS z0 (if dn = true then exL X0 (res.1.getD []) else X0)) res) sz 0 0) sz 0 0 7 [some (.ref (a + 105)), some (.int (bI (dn = true))), some (.int 1), L3] [] (B G a (mTX (mset C 106 (zXS z0 (if dn = true then exL X0 acc else X0))) s1 p v1 n1 t1)) := by
    intro f
    induction f with
    | zero =>
      intro p s1 v1 n1 t1 acc L3 hp hf hr hX
      omega
    | succ f ih =>
      intro p s1 v1 n1 t1 acc L3 hp hf hr hX
      obtain ⟨X, hXe⟩ : ∃ X, X = (if dn = true then exL X0 acc else X0) := ⟨_, rfl⟩
      rw [← hXe]
      have hX30 : dn = true → X.2.1 < 30 := fun h => by rw [hXe, if_pos h]; exact hX h
      refine V_iload_n dX7_readText_7 rfl ?_
      refine V_if_eq dX7_readText_8 (fun z => absurd z (by decide)) (fun _ => ?_)
      refine V_aload_n dX7_readText_11 rfl ?_
      refine V_callV dX7_readText_12 kX7_134 ykX7_readItem (B_at (by decide) rfl) rfl (tX7_readItem (C := mset C 106 (zXS z0 X)) (n := n) (p := p) (s0 := s1) (vv := v1) (nn := n1) (tt := t1) (res := pItm (chM C n) p) rfl hn hn60 hp) rfl (Nat.le_of_ble_eq_true rfl) ⟨by decide, by decide, by decide, by decide⟩ ?_
      intro r h' hq
      obtain ⟨s2, v2, n2, t2, rfl, rfl, hhold⟩ := hq
      have h1 := pItm_ok c0 hp hn60
      rw [pTxt] at hr
      generalize pItm (chM C n) p = ri at h1 hr hhold
      obtain ⟨i, p1⟩ := ri
      cases i with
      | none =>
        simp only at hr
        have hnd : dn = true → False := fun z => hdn z (by rw [hr])
        show V G l RX7 "readText" cX7_readText 4 (some .boolean) (rmd 5 0 0) E0 (Qm G (Rtx G a C (zXS z0 (if dn = true then exL X0 (res.1.getD []) else X0)) res) sz 0 0) sz 0 0 15 [some (.ref (a + 105)), some (.int (bI (dn = true))), some (.int 1), L3] [.int (-5)] (B G a (mTX (mset C 106 (zXS z0 X)) s2 p1 v2 n2 t2))
        refine V_istore_n dX7_readText_15 (by decide) (by dsimp only [List.set] <;> rfl) ?_
        refine V_iload_n dX7_readText_16 rfl ?_
        refine V_bipush (v := (-5)) dX7_readText_17 (by decide) ?_
        refine V_icmp_ne dX7_readText_19 (fun z => absurd z (fun z => z rfl)) (fun _ => ?_)
        refine V_iconst (v := 0) dX7_readText_22 (by decide) ?_
        refine V_zret dX7_readText_23 rfl (by first | rfl | exact bI_nar) rfl rfl ?_
        exact bad _ _ _ _ _ _ hnd (by rw [hXe, if_neg hnd]) hr
      | some i =>
        obtain ⟨h11, h12, h13⟩ := h1
        obtain ⟨h14, h15⟩ := h13 i rfl
        obtain ⟨hs2, hold⟩ := hhold i rfl
        simp only at hr h11 h12 h14
        have hT99 : i.1 ≤ 99 := by rcases h15.1 with q | q <;> omega
        have hne : ¬ nI i.1 = -5 := fun z => by
          have := congrArg Int32.toInt z
          rw [nI_toInt (by omega)] at this
          have e : (-5 : Int32).toInt = -5 := rfl
          omega
        have e1 : exL X0 (acc ++ [i]) = exI (exL X0 acc) i := by unfold exL; rw [List.foldl_append]; rfl
        have next : ∀ (s3 : Nat) (v3 n3 t3 : Nat → Int32), V G l RX7 "readText" cX7_readText 4 (some .boolean) (rmd 5 0 0) E0 (Qm G (Rtx G a C (zXS z0 (if dn = true then exL X0 (res.1.getD []) else X0)) res) sz 0 0) sz 0 0 61 [some (.ref (a + 105)), some (.int (bI (dn = true))), some (.int 1), some (.int (nI i.1))] [] (B G a (mTX (mset C 106 (zXS z0 (if dn = true then exL X0 (acc ++ [i]) else X0))) s3 p1 v3 n3 t3)) := by
          intro s3 v3 n3 t3
          refine V_aload_n dX7_readText_61 rfl ?_
          refine V_bipush (v := 59) dX7_readText_62 (by decide) ?_
          refine V_callVw dX7_readText_64 kX7_127 ykX7_takes (by decide) rfl rfl (tX7_takes (C := mTX (mset C 106 (zXS z0 (if dn = true then exL X0 (acc ++ [i]) else X0))) s3 p1 v3 n3 t3) 59 (by decide) h2 hn60 h4 (by omega)) rfl (Nat.le_of_ble_eq_true rfl) ⟨by decide, by decide, by decide, by decide⟩ ?_
          rw [mSp_TX, show chM (mTX (mset C 106 (zXS z0 (if dn = true then exL X0 (acc ++ [i]) else X0))) s3 p1 v3 n3 t3) n p1 = chM C n p1 from rfl]
          by_cases hc : chM C n p1 = 59
          · have hpn := vB_none c0 (show chM C n p1 ≠ 0 by rw [hc]; decide)
            rw [if_pos hc] at hr
            rw [if_pos hc, bI_t hc]
            refine V_istore_n dX7_readText_67 (by decide) (by dsimp only [List.set] <;> rfl) ?_
            refine V_goto dX7_readText_68 ?_
            exact ih (p1 + 1) _ _ _ _ _ _ (by omega) (by omega) hr (fun z => by rw [e1]; exact exI_hd (hX z) h15)
          · rw [if_neg hc] at hr
            rw [if_neg hc, bI_f hc]
            refine V_istore_n dX7_readText_67 (by decide) (by dsimp only [List.set] <;> rfl) ?_
            refine V_goto dX7_readText_68 ?_
            refine V_iload_n dX7_readText_7 rfl ?_
            refine V_if_eq dX7_readText_8 (fun _ => ?_) (fun z => absurd rfl z)
            refine V_aload_n dX7_readText_71 rfl ?_
            refine V_bget dX7_readText_72 fX7_115 (by decide) rfl (by (try simp only [mset_s, mset_n, pk_us, pk_un, ne_eq, Nat.reduceEqDiff, Nat.reduceAdd, not_false_eq_true, not_true_eq_false]) <;> rfl) ?_
            rw [h4]
            refine V_aload_n dX7_readText_75 rfl ?_
            refine V_bget dX7_readText_76 fX7_112 (by decide) rfl (by (try simp only [mset_s, mset_n, pk_us, pk_un, ne_eq, Nat.reduceEqDiff, Nat.reduceAdd, not_false_eq_true, not_true_eq_false]) <;> rfl) ?_
            rw [h2]
            by_cases hd : p1 = n
            · rw [if_pos hd] at hr
              refine V_icmp_ne dX7_readText_79 (fun z => absurd z (fun z => z ((ceq (by repeat (first | with_reducible rfl | with_reducible exact nlit | with_reducible apply nadd | with_reducible apply nmul | with_reducible apply nsub | with_reducible assumption | omega)) (by repeat (first | with_reducible rfl | with_reducible exact nlit | with_reducible apply nadd | with_reducible apply nmul | with_reducible apply nsub | with_reducible assumption | omega)) (by omega) (by omega)).mpr (by omega)))) (fun _ => ?_)
              refine V_iconst (v := 1) dX7_readText_82 (by decide) ?_
              refine V_goto dX7_readText_83 ?_
              refine V_zret dX7_readText_87 rfl (by first | rfl | exact bI_nar) rfl rfl ?_
              rw [hr]
              exact ⟨_, _, _, _, rfl, rfl⟩
            · rw [if_neg hd] at hr
              have hnd : dn = true → False := fun z => hdn z (by rw [hr])
              refine V_icmp_ne dX7_readText_79 (fun _ => ?_) (fun z => absurd z ((fun z => absurd ((ceq (by repeat (first | with_reducible rfl | with_reducible exact nlit | with_reducible apply nadd | with_reducible apply nmul | with_reducible apply nsub | with_reducible assumption | omega)) (by repeat (first | with_reducible rfl | with_reducible exact nlit | with_reducible apply nadd | with_reducible apply nmul | with_reducible apply nsub | with_reducible assumption | omega)) (by omega) (by omega)).mp z) (by omega))))
              refine V_iconst (v := 0) dX7_readText_86 (by decide) ?_
              refine V_zret dX7_readText_87 rfl (by first | rfl | exact bI_nar) rfl rfl ?_
              exact bad _ _ _ _ _ _ hnd (by rw [if_neg hnd]) hr
        show V G l RX7 "readText" cX7_readText 4 (some .boolean) (rmd 5 0 0) E0 (Qm G (Rtx G a C (zXS z0 (if dn = true then exL X0 (res.1.getD []) else X0)) res) sz 0 0) sz 0 0 15 [some (.ref (a + 105)), some (.int (bI (dn = true))), some (.int 1), L3] [.int (nI i.1)] (B G a (mTX (mset C 106 (zXS z0 X)) s2 p1 v2 n2 t2))
        refine V_istore_n dX7_readText_15 (by decide) (by dsimp only [List.set] <;> rfl) ?_
        refine V_iload_n dX7_readText_16 rfl ?_
        refine V_bipush (v := (-5)) dX7_readText_17 (by decide) ?_
        refine V_icmp_ne dX7_readText_19 (fun _ => ?_) (fun z => absurd z hne)
        refine V_iload_n dX7_readText_24 rfl ?_
        cases dn with
        | false =>
          have hX0' : X = X0 := by rw [hXe]; rfl
          refine V_if_eq dX7_readText_25 (fun _ => ?_) (fun z => absurd (bI_f (by decide)) z)
          refine V_iload_n dX7_readText_52 rfl ?_
          refine V_if_eq dX7_readText_53 (fun _ => ?_) (fun z => absurd (bI_f (by decide)) z)
          have := next s2 v2 n2 t2
          rw [hX0']
          exact this
        | true =>
          have hX1 : X = exL X0 acc := by rw [hXe]; rfl
          have h30 := hX30 rfl
          rw [if_pos rfl, e1, ← hX1] at next
          refine V_if_eq dX7_readText_25 (fun z => absurd z (bI_ne0.mpr rfl)) (fun _ => ?_)
          refine V_iload_n dX7_readText_28 rfl ?_
          by_cases hi0 : i.1 = 0
          · have hl1 : i.2.length = 1 := by rcases h15.1 with q | q <;> omega
            have h0 := holdB_get hold (k := 0) (by omega)
            have hts := ts_get h15.2 (k := 0) (by omega)
            have hgm := gM_9 (v := (i.2.getD 0 (0, 0, 0)).1)
            refine V_if_ne dX7_readText_29 (fun z => absurd z (fun z => z (by rw [hi0]; rfl))) (fun _ => ?_)
            refine V_aload_n dX7_readText_32 rfl ?_
            refine V_aload_n dX7_readText_33 rfl ?_
            refine V_bget dX7_readText_34 fX7_25 (by decide) rfl (by (try simp only [mset_s, mset_n, pk_us, pk_un, ne_eq, Nat.reduceEqDiff, Nat.reduceAdd, not_false_eq_true, not_true_eq_false]) <;> rfl) ?_
            refine V_iconst (v := 0) dX7_readText_37 (by decide) ?_
            refine V_biald dX7_readText_38 (by decide) rfl (by repeat (first | with_reducible rfl | with_reducible exact nlit | with_reducible apply nadd | with_reducible apply nmul | with_reducible apply nsub | with_reducible assumption | omega)) (by omega) (by first | decide | omega) (by (try simp only [mset_s, mset_n, pk_us, pk_un, ne_eq, Nat.reduceEqDiff, Nat.reduceAdd, not_false_eq_true, not_true_eq_false]) <;> rfl) ?_
            rw [show mTX (mset C 106 (zXS z0 X)) s2 p1 v2 n2 t2 111 0 = bvF i.2 0 from h0.1]
            refine V_aload_n dX7_readText_39 rfl ?_
            refine V_bget dX7_readText_40 fX7_28 (by decide) rfl (by (try simp only [mset_s, mset_n, pk_us, pk_un, ne_eq, Nat.reduceEqDiff, Nat.reduceAdd, not_false_eq_true, not_true_eq_false]) <;> rfl) ?_
            refine V_iconst (v := 0) dX7_readText_43 (by decide) ?_
            refine V_biald dX7_readText_44 (by decide) rfl (by repeat (first | with_reducible rfl | with_reducible exact nlit | with_reducible apply nadd | with_reducible apply nmul | with_reducible apply nsub | with_reducible assumption | omega)) (by omega) (by first | decide | omega) (by (try simp only [mset_s, mset_n, pk_us, pk_un, ne_eq, Nat.reduceEqDiff, Nat.reduceAdd, not_false_eq_true, not_true_eq_false]) <;> rfl) ?_
            rw [show mTX (mset C 106 (zXS z0 X)) s2 p1 v2 n2 t2 112 0 = nI (i.2.getD 0 (0, 0, 0)).2.1 from h0.2.1]
            have hm34 : bvF i.2 0 = 3 ∨ bvF i.2 0 = 4 → (i.2.getD 0 (0, 0, 0)).2.1 < 30 := by
              intro hv
              have hv' : (i.2.getD 0 (0, 0, 0)).1 = 3 ∨ (i.2.getD 0 (0, 0, 0)).1 = 4 := hv.elim (fun z => Or.inl ((ceq rfl nlit (by have := hts.1; omega) (by omega)).mp z)) (fun z => Or.inr ((ceq rfl nlit (by have := hts.1; omega) (by omega)).mp z))
              have := hts.2
              unfold gM at this
              rw [if_pos (Or.inr hv')] at this
              omega
            refine V_callVw dX7_readText_45 kX7_63 ykX7_doStep (by decide) rfl rfl (tX7_doStep (C := mTX (mset C 106 (zXS z0 X)) s2 p1 v2 n2 t2) (hd := X.2.1) (zXS_30 (z0 := z0) (X := X)) h30 hm34 (by have := hts.2; omega)) rfl (Nat.le_of_ble_eq_true rfl) ⟨by decide, by decide, by decide, by decide⟩ ?_
            rw [show mTX (mset C 106 (zXS z0 X)) s2 p1 v2 n2 t2 106 = zXS z0 X from rfl, zXS_step h30 hm34, mTX_z, mTX_zz]
            refine V_pop dX7_readText_48 rfl ?_
            refine V_goto dX7_readText_49 ?_
            have := next s2 v2 n2 t2
            unfold exI at this
            rw [if_pos hi0] at this
            exact this
          · refine V_if_ne dX7_readText_29 (fun _ => ?_) (fun z => absurd z ((by intro z; exact hi0 ((ceq rfl nlit (by omega) (by omega)).mp z))))
            refine V_iload_n dX7_readText_52 rfl ?_
            refine V_if_eq dX7_readText_53 (fun z => absurd z (bI_ne0.mpr rfl)) (fun _ => ?_)
            refine V_aload_n dX7_readText_56 rfl ?_
            refine V_iload_n dX7_readText_57 rfl ?_
            rw [hs2]
            refine V_callVu dX7_readText_58 kX7_105 ykX7_playBody (by decide) rfl rfl (tX7_playBody (C := mTX (mset C 106 (zXS z0 X)) i.2.length p1 v2 n2 t2) (z0 := zXS z0 X) (s := (X.1, X.2.1, 0, 0)) (fl := 0) (size := i.2.length) (by exact (zOf_0 (fun j hj => zXS_c hj) zXS_30).symm) h30 rfl (by rcases h15.1 with q | q <;> omega) (by omega)) rfl (Nat.le_of_ble_eq_true rfl) ⟨by decide, by decide, by decide, by decide⟩ ?_
            rw [show mTX (mset C 106 (zXS z0 X)) i.2.length p1 v2 n2 t2 111 = v2 from rfl, show mTX (mset C 106 (zXS z0 X)) i.2.length p1 v2 n2 t2 112 = n2 from rfl, show mTX (mset C 106 (zXS z0 X)) i.2.length p1 v2 n2 t2 113 = t2 from rfl, plBody_congr (fun j hj => holdB_get hold hj) i.1 0 (X.1, X.2.1, 0, 0), zXS_play, mTX_z, mTX_zz]
            have := next i.2.length v2 n2 t2
            unfold exI at this
            rw [if_neg hi0] at this
            exact this
  refine V_aload_n dX7_readText_0 rfl ?_
  refine V_iconst (v := 0) dX7_readText_1 (by decide) ?_
  refine V_bputi (i0 := 4) dX7_readText_2 fX7_115 (by decide) rfl rfl rfl (Nat.le_of_ble_eq_true rfl) rfl ?_
  refine V_iconst (v := 1) dX7_readText_5 (by decide) ?_
  refine V_istore_n dX7_readText_6 (by decide) (by dsimp only [List.set] <;> rfl) ?_
  rw [show mset (mTX (mset C 106 (zXS z0 X0)) s0 p0 vv nn tt) 105 (upd (mTX (mset C 106 (zXS z0 X0)) s0 p0 vv nn tt 105) 4 0) = mTX (mset C 106 (zXS z0 X0)) s0 0 vv nn tt from mTX_p]
  have k0 := key 60 0 s0 vv nn tt [] none (by omega) (Or.inl ⟨rfl, rfl⟩) hres (fun _ => hX0)
  have e0 : (if dn = true then exL X0 [] else X0) = X0 := by cases dn <;> rfl
  rw [e0] at k0
  exact k0
theorem mTX_eta {C : CT} {s p : Nat} (h3 : C 105 3 = nI s) (h4 : C 105 4 = nI p) : mTX C s p (C 111) (C 112) (C 113) = C := by
  funext i
  unfold mTX
  by_cases h5 : i = 105
  · rw [if_pos h5, h5, ← h3, u_eta, ← h4, u_eta]
  rw [if_neg h5]
  by_cases h1 : i = 111
  · rw [if_pos h1, h1]
  rw [if_neg h1]
  by_cases h1 : i = 112
  · rw [if_pos h1, h1]
  rw [if_neg h1]
  by_cases h1 : i = 113
  · rw [if_pos h1, h1]
  rw [if_neg h1]
theorem SC_TX {C : CT} {s p : Nat} {v n t : Nat → Int32} : SC C (mTX C s p v n t) := by
  refine ⟨fun _ _ => rfl, fun j h3 h4 => ?_, fun _ _ => rfl, fun i hi => ?_⟩
  · show upd (upd (C 105) 3 (nI s)) 4 (nI p) j = C 105 j
    rw [pk_un h4, pk_un h3]
  · unfold mTX
    rw [if_neg (scr_ne rfl hi), if_neg (scr_ne rfl hi), if_neg (scr_ne rfl hi), if_neg (scr_ne rfl hi)]
theorem mSave_TX {C : CT} {s p st : Nat} {v n t : Nat → Int32} : mSave (mTX C s p v n t) st = mTX (mSave C st) s p v n t := by
  funext i
  unfold mSave
  by_cases h5 : i = 105
  · subst h5
    rw [mset_s]
    show upd (upd (upd (C 105) 3 (nI s)) 4 (nI p)) 0 (nI (svN st)) = upd (upd (mset _ 105 (upd (C 105) 0 (nI (svN st))) 105) 3 (nI s)) 4 (nI p)
    rw [mset_s, upd_comm (i := 4) (j := 0) (by decide), upd_comm (i := 3) (j := 0) (by decide)]
  rw [mset_n h5]
  unfold mTX
  rw [if_neg h5]
  by_cases h8 : i = 108
  · subst h8
    rw [mset_s]
    rfl
  rw [mset_n h8, if_neg h5, mset_n h5, mset_n h8]
set_option maxHeartbeats 4000000 in
theorem tX7_perform_f {n s p q : Nat} (h3 : C 105 3 = nI s) (h4 : C 105 4 = nI p) (hn : C 105 2 = nI n) (hn60 : n ≤ 60) {c : Nat → Int32} {hd : Nat} (hc : ∀ j, j < 30 → C 106 j = c j) (h30 : C 106 30 = nI hd) (hhd : hd < 30) (hres : pTxt (chM C n) n 60 0 [] = (none, q)) : Ct G l yX7_perform cX7_perform 2 (some .int) 6 0 0 sz [.ref (a + 105)] (B G a C) (Rs G a (.int (-100 - nI q)) C) := by
  refine Ct.of (own := RX7) (mn := "perform") (L0 := [some (.ref (a + 105)), none]) (by decide +kernel) rfl rfl rfl (Nat.le_of_ble_eq_true rfl) rfl ?_
  refine V_aload_n dX7_perform_0 rfl ?_
  refine V_iconst (v := 0) dX7_perform_1 (by decide) ?_
  have e0 : mTX (mset C 106 (zXS (C 106) (c, hd, 0, 0, 0, C 106 37))) s p (C 111) (C 112) (C 113) = C := by
    rw [zXS_0 hc h30, mset_eta, mTX_eta h3 h4]
  have ct := tX7_readText (G := G) (l := l) (sz := sz) (a := a) (C := C) (n := n) (s0 := s) (p0 := p) (z0 := C 106) (vv := C 111) (nn := C 112) (tt := C 113) (X0 := (c, hd, 0, 0, 0, C 106 37)) false hres.symm hn hn60 hhd (fun z => absurd z (by decide))
  rw [e0] at ct
  refine V_callV dX7_perform_2 kX7_138 ykX7_readText (B_at (by decide) rfl) rfl ct rfl (Nat.le_of_ble_eq_true rfl) ⟨by decide, by decide, by decide, by decide⟩ ?_
  intro r h' hq
  obtain ⟨s2, v2, n2, t2, rfl, rfl⟩ := hq
  rw [show (if false = true then exL (c, hd, 0, 0, 0, C 106 37) (((none : Option (List (Nat × List TS))), q).1.getD []) else (c, hd, 0, 0, 0, C 106 37)) = (c, hd, 0, 0, 0, C 106 37) from rfl, zXS_0 hc h30, mset_eta]
  show V G l RX7 "perform" cX7_perform 2 (some .int) (rmd 6 0 0) E0 (Qm G (Rs G a (.int (-100 - nI q)) C) sz 0 0) sz 0 0 5 [some (.ref (a + 105)), none] [.int 0] (B G a (mTX C s2 q v2 n2 t2))
  refine V_if_ne dX7_perform_5 (fun z => absurd z (fun z => z rfl)) (fun _ => ?_)
  refine V_bipush (v := (-100)) dX7_perform_8 (by decide) ?_
  refine V_aload_n dX7_perform_10 rfl ?_
  refine V_bget dX7_perform_11 fX7_115 (by decide) rfl (by (try simp only [mset_s, mset_n, pk_us, pk_un, ne_eq, Nat.reduceEqDiff, Nat.reduceAdd, not_false_eq_true, not_true_eq_false]) <;> rfl) ?_
  rw [show mTX C s2 q v2 n2 t2 105 4 = nI q from rfl]
  refine V_isub dX7_perform_14 ?_
  refine V_iret dX7_perform_15 rfl rfl rfl ?_
  exact Rs_i rfl SC_TX
set_option maxHeartbeats 4000000 in
theorem tX7_perform_n {n s p q : Nat} {its : List (Nat × List TS)} (h3 : C 105 3 = nI s) (h4 : C 105 4 = nI p) (hn : C 105 2 = nI n) (hn60 : n ≤ 60) {c : Nat → Int32} {hd : Nat} (hc : ∀ j, j < 30 → C 106 j = c j) (h30 : C 106 30 = nI hd) (hhd : hd < 30) (hres : pTxt (chM C n) n 60 0 [] = (some its, q)) (ho : C 106 32 = 1) : Ct G l yX7_perform cX7_perform 2 (some .int) 6 0 0 sz [.ref (a + 105)] (B G a C) (Rs G a (.int (-4)) C) := by
  refine Ct.of (own := RX7) (mn := "perform") (L0 := [some (.ref (a + 105)), none]) (by decide +kernel) rfl rfl rfl (Nat.le_of_ble_eq_true rfl) rfl ?_
  refine V_aload_n dX7_perform_0 rfl ?_
  refine V_iconst (v := 0) dX7_perform_1 (by decide) ?_
  have e0 : mTX (mset C 106 (zXS (C 106) (c, hd, 0, 0, 0, C 106 37))) s p (C 111) (C 112) (C 113) = C := by
    rw [zXS_0 hc h30, mset_eta, mTX_eta h3 h4]
  have ct := tX7_readText (G := G) (l := l) (sz := sz) (a := a) (C := C) (n := n) (s0 := s) (p0 := p) (z0 := C 106) (vv := C 111) (nn := C 112) (tt := C 113) (X0 := (c, hd, 0, 0, 0, C 106 37)) false hres.symm hn hn60 hhd (fun z => absurd z (by decide))
  rw [e0] at ct
  refine V_callV dX7_perform_2 kX7_138 ykX7_readText (B_at (by decide) rfl) rfl ct rfl (Nat.le_of_ble_eq_true rfl) ⟨by decide, by decide, by decide, by decide⟩ ?_
  intro r h' hq
  obtain ⟨s2, v2, n2, t2, rfl, rfl⟩ := hq
  rw [show (if false = true then exL (c, hd, 0, 0, 0, C 106 37) (((some its : Option (List (Nat × List TS))), q).1.getD []) else (c, hd, 0, 0, 0, C 106 37)) = (c, hd, 0, 0, 0, C 106 37) from rfl, zXS_0 hc h30, mset_eta]
  show V G l RX7 "perform" cX7_perform 2 (some .int) (rmd 6 0 0) E0 (Qm G (Rs G a (.int (-4)) C) sz 0 0) sz 0 0 5 [some (.ref (a + 105)), none] [.int (bI (some its ≠ none))] (B G a (mTX C s2 q v2 n2 t2))
  refine V_if_ne dX7_perform_5 (fun _ => ?_) (fun z => absurd z ((bI_ne0.mpr (by simp))))
  refine V_aload_n dX7_perform_16 rfl ?_
  refine V_bget dX7_perform_17 fX7_7 (by decide) rfl (by (try simp only [mset_s, mset_n, pk_us, pk_un, ne_eq, Nat.reduceEqDiff, Nat.reduceAdd, not_false_eq_true, not_true_eq_false]) <;> rfl) ?_
  refine V_bipush (v := 32) dX7_perform_20 (by decide) ?_
  refine V_biald dX7_perform_22 (by decide) rfl (by repeat (first | with_reducible rfl | with_reducible exact nlit | with_reducible apply nadd | with_reducible apply nmul | with_reducible apply nsub | with_reducible assumption | omega)) (by omega) (by first | decide | omega) (by (try simp only [mset_s, mset_n, pk_us, pk_un, ne_eq, Nat.reduceEqDiff, Nat.reduceAdd, not_false_eq_true, not_true_eq_false]) <;> rfl) ?_
  rw [show mTX C s2 q v2 n2 t2 106 32 = 1 from ho]
  refine V_iconst (v := 1) dX7_perform_23 (by decide) ?_
  refine V_icmp_ne dX7_perform_24 (fun z => absurd z (fun z => z rfl)) (fun _ => ?_)
  refine V_bipush (v := (-4)) dX7_perform_27 (by decide) ?_
  refine V_iret dX7_perform_29 rfl rfl rfl ?_
  exact Rs_i rfl SC_TX
set_option maxHeartbeats 4000000 in
theorem tX7_perform {n s p q st : Nat} {its : List (Nat × List TS)} (hst : st ≤ 4) (h0 : C 105 0 = nI st) (h3 : C 105 3 = nI s) (h4 : C 105 4 = nI p) (hn : C 105 2 = nI n) (hn60 : n ≤ 60) {c : Nat → Int32} {hd : Nat} (hc : ∀ j, j < 30 → C 106 j = c j) (h30 : C 106 30 = nI hd) (hhd : hd < 30) (hres : pTxt (chM C n) n 60 0 [] = (some its, q)) (ho : ¬ C 106 32 = 1) : Ct G l yX7_perform cX7_perform 2 (some .int) 6 0 0 sz [.ref (a + 105)] (B G a C) (Rs G a (.int (exL (c, hd, 0, 0, 0, C 106 37) its).2.2.1) (mset (mSave C st) 106 (zXS (C 106) (exL (c, hd, 0, 0, 0, C 106 37) its)))) := by
  refine Ct.of (own := RX7) (mn := "perform") (L0 := [some (.ref (a + 105)), none]) (by decide +kernel) rfl rfl rfl (Nat.le_of_ble_eq_true rfl) rfl ?_
  refine V_aload_n dX7_perform_0 rfl ?_
  refine V_iconst (v := 0) dX7_perform_1 (by decide) ?_
  have e0 : mTX (mset C 106 (zXS (C 106) (c, hd, 0, 0, 0, C 106 37))) s p (C 111) (C 112) (C 113) = C := by
    rw [zXS_0 hc h30, mset_eta, mTX_eta h3 h4]
  have ct := tX7_readText (G := G) (l := l) (sz := sz) (a := a) (C := C) (n := n) (s0 := s) (p0 := p) (z0 := C 106) (vv := C 111) (nn := C 112) (tt := C 113) (X0 := (c, hd, 0, 0, 0, C 106 37)) false hres.symm hn hn60 hhd (fun z => absurd z (by decide))
  rw [e0] at ct
  refine V_callV dX7_perform_2 kX7_138 ykX7_readText (B_at (by decide) rfl) rfl ct rfl (Nat.le_of_ble_eq_true rfl) ⟨by decide, by decide, by decide, by decide⟩ ?_
  intro r h' hq
  obtain ⟨s2, v2, n2, t2, rfl, rfl⟩ := hq
  rw [show (if false = true then exL (c, hd, 0, 0, 0, C 106 37) (((some its : Option (List (Nat × List TS))), q).1.getD []) else (c, hd, 0, 0, 0, C 106 37)) = (c, hd, 0, 0, 0, C 106 37) from rfl, zXS_0 hc h30, mset_eta]
  show V G l RX7 "perform" cX7_perform 2 (some .int) (rmd 6 0 0) E0 (Qm G (Rs G a (.int (exL (c, hd, 0, 0, 0, C 106 37) its).2.2.1) (mset (mSave C st) 106 (zXS (C 106) (exL (c, hd, 0, 0, 0, C 106 37) its)))) sz 0 0) sz 0 0 5 [some (.ref (a + 105)), none] [.int (bI (some its ≠ none))] (B G a (mTX C s2 q v2 n2 t2))
  refine V_if_ne dX7_perform_5 (fun _ => ?_) (fun z => absurd z ((bI_ne0.mpr (by simp))))
  refine V_aload_n dX7_perform_16 rfl ?_
  refine V_bget dX7_perform_17 fX7_7 (by decide) rfl (by (try simp only [mset_s, mset_n, pk_us, pk_un, ne_eq, Nat.reduceEqDiff, Nat.reduceAdd, not_false_eq_true, not_true_eq_false]) <;> rfl) ?_
  refine V_bipush (v := 32) dX7_perform_20 (by decide) ?_
  refine V_biald dX7_perform_22 (by decide) rfl (by repeat (first | with_reducible rfl | with_reducible exact nlit | with_reducible apply nadd | with_reducible apply nmul | with_reducible apply nsub | with_reducible assumption | omega)) (by omega) (by first | decide | omega) (by (try simp only [mset_s, mset_n, pk_us, pk_un, ne_eq, Nat.reduceEqDiff, Nat.reduceAdd, not_false_eq_true, not_true_eq_false]) <;> rfl) ?_
  rw [show mTX C s2 q v2 n2 t2 106 32 = C 106 32 from rfl]
  refine V_iconst (v := 1) dX7_perform_23 (by decide) ?_
  refine V_icmp_ne dX7_perform_24 (fun _ => ?_) (fun z => absurd z ho)
  refine V_aload_n dX7_perform_30 rfl ?_
  refine V_callVu dX7_perform_31 kX7_53 ykX7_save (by decide) rfl rfl (tX7_save (C := mTX C s2 q v2 n2 t2) hst (by exact h0)) rfl (Nat.le_of_ble_eq_true rfl) ⟨by decide, by decide, by decide, by decide⟩ ?_
  rw [mSave_TX]
  refine V_aload_n dX7_perform_34 rfl ?_
  refine V_bget dX7_perform_35 fX7_7 (by decide) rfl (by (try simp only [mset_s, mset_n, pk_us, pk_un, ne_eq, Nat.reduceEqDiff, Nat.reduceAdd, not_false_eq_true, not_true_eq_false]) <;> rfl) ?_
  refine V_bipush (v := 34) dX7_perform_38 (by decide) ?_
  refine V_biald dX7_perform_40 (by decide) rfl (by repeat (first | with_reducible rfl | with_reducible exact nlit | with_reducible apply nadd | with_reducible apply nmul | with_reducible apply nsub | with_reducible assumption | omega)) (by omega) (by first | decide | omega) (by (try simp only [mset_s, mset_n, pk_us, pk_un, ne_eq, Nat.reduceEqDiff, Nat.reduceAdd, not_false_eq_true, not_true_eq_false]) <;> rfl) ?_
  rw [show mTX (mSave C st) s2 q v2 n2 t2 106 34 = C 106 34 from by show mSave C st 106 34 = _; rw [mSave_z]]
  refine V_istore_n dX7_perform_41 (by decide) (by dsimp only [List.set] <;> rfl) ?_
  refine V_aload_n dX7_perform_42 rfl ?_
  refine V_iconst (v := 1) dX7_perform_43 (by decide) ?_
  have e1 : mTX (mset (mSave C st) 106 (zXS (C 106) (c, hd, 0, 0, 0, C 106 37))) s2 q v2 n2 t2 = mTX (mSave C st) s2 q v2 n2 t2 := by
    rw [zXS_0 hc h30]
    have := mSave_z (C := C) (st := st)
    rw [← this, mset_eta]
  have hch : chM (mSave C st) n = chM C n := by
    unfold chM mSave
    rw [mset_n (by decide), mset_n (by decide)]
  have ct2 := tX7_readText (G := G) (l := l) (sz := sz + 0 + 0) (a := a) (C := mSave C st) (n := n) (s0 := s2) (p0 := q) (z0 := C 106) (vv := v2) (nn := n2) (tt := t2) (X0 := (c, hd, 0, 0, 0, C 106 37)) (res := (some its, q)) true (by rw [hch]; exact hres.symm) (by unfold mSave; rw [mset_s, pk_un (by decide)]; exact hn) hn60 hhd (fun _ => by simp)
  rw [e1] at ct2
  refine V_callV dX7_perform_44 kX7_138 ykX7_readText (B_at (by decide) rfl) rfl ct2 rfl (Nat.le_of_ble_eq_true rfl) ⟨by decide, by decide, by decide, by decide⟩ ?_
  intro r h' hq
  obtain ⟨s3, v3, n3, t3, rfl, rfl⟩ := hq
  rw [show (if true = true then exL (c, hd, 0, 0, 0, C 106 37) (((some its : Option (List (Nat × List TS))), q).1.getD []) else (c, hd, 0, 0, 0, C 106 37)) = exL (c, hd, 0, 0, 0, C 106 37) its from rfl]
  show V G l RX7 "perform" cX7_perform 2 (some .int) (rmd 6 0 0) E0 (Qm G (Rs G a (.int (exL (c, hd, 0, 0, 0, C 106 37) its).2.2.1) (mset (mSave C st) 106 (zXS (C 106) (exL (c, hd, 0, 0, 0, C 106 37) its)))) sz 0 0) sz 0 0 47 [some (.ref (a + 105)), some (.int (C 106 34))] [.int (bI (some its ≠ none))] (B G a (mTX (mset (mSave C st) 106 (zXS (C 106) (exL (c, hd, 0, 0, 0, C 106 37) its))) s3 q v3 n3 t3))
  refine V_pop dX7_perform_47 rfl ?_
  refine V_aload_n dX7_perform_48 rfl ?_
  refine V_bget dX7_perform_49 fX7_7 (by decide) rfl (by (try simp only [mset_s, mset_n, pk_us, pk_un, ne_eq, Nat.reduceEqDiff, Nat.reduceAdd, not_false_eq_true, not_true_eq_false]) <;> rfl) ?_
  refine V_bipush (v := 34) dX7_perform_52 (by decide) ?_
  refine V_biald dX7_perform_54 (by decide) rfl (by repeat (first | with_reducible rfl | with_reducible exact nlit | with_reducible apply nadd | with_reducible apply nmul | with_reducible apply nsub | with_reducible assumption | omega)) (by omega) (by first | decide | omega) (by (try simp only [mset_s, mset_n, pk_us, pk_un, ne_eq, Nat.reduceEqDiff, Nat.reduceAdd, not_false_eq_true, not_true_eq_false]) <;> rfl) ?_
  rw [show mTX (mset (mSave C st) 106 (zXS (C 106) (exL (c, hd, 0, 0, 0, C 106 37) its))) s3 q v3 n3 t3 106 34 = C 106 34 + (exL (c, hd, 0, 0, 0, C 106 37) its).2.2.1 from zXS_34]
  refine V_iload_n dX7_perform_55 rfl ?_
  refine V_isub dX7_perform_56 ?_
  refine V_iret dX7_perform_57 rfl rfl rfl ?_
  exact Rs_i sub_had SC_TX
end MODEL
