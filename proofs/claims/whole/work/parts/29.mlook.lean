/-! TryLoopsModel: fits, mostTurns, ifPlayed, fewestTurns. -/
abbrev fitM (z : Nat → Int32) (n len i li : Nat) : Prop := li % len = 0 ∧ ∀ k, k < li → z (38 + 25 * i + 1 + 2 * k) = lvM z n (k % len) ∧ z (38 + 25 * i + 2 + 2 * k) = lnM z n (k % len) + nI (k / len) * lsM z n (k % len)
abbrev fitU (z : Nat → Int32) (n len i li K : Nat) : Prop := li % len = 0 ∧ ∀ k, k < K → z (38 + 25 * i + 1 + 2 * k) = lvM z n (k % len) ∧ z (38 + 25 * i + 2 + 2 * k) = lnM z n (k % len) + nI (k / len) * lsM z n (k % len)
def mtU (v x t : Int32) : Int32 := if t = 0 then -5 else 1 + (if 0 < t then (gN v - x) / t else x / -t)
def mtStep (v x t most : Int32) : Int32 := if ¬ mtU v x t = -5 ∧ (most = -5 ∨ mtU v x t < most) then mtU v x t else most
def mtF (bv bn bs : Nat → Int32) : Nat → Int32
  | 0 => -5
  | k + 1 => mtStep (bv k) (bn k) (bs k) (mtF bv bn bs k)
theorem mtF_congr {bv bn bs bv' bn' bs' : Nat → Int32} : ∀ (m : Nat), (∀ j, j < m → bv j = bv' j ∧ bn j = bn' j ∧ bs j = bs' j) → mtF bv bn bs m = mtF bv' bn' bs' m := by
  intro m
  induction m with
  | zero => intro _; rfl
  | succ m ih =>
    intro h
    obtain ⟨e1, e2, e3⟩ := h m (by omega)
    rw [mtF, mtF, e1, e2, e3, ih (fun j hj => h j (by omega))]
theorem SC_body0 {C : CT} {n len : Nat} : SC C (mBody C n len) := by
  have := SC_body (C := C) (n := n) (len := len) (z := C 106)
  rw [mset_eta] at this
  have e : mset (mBody C n len) 106 (C 106) = mBody C n len := by
    have e1 : mBody C n len 106 = C 106 := rfl
    rw [← e1, mset_eta]
  rw [e] at this
  exact this
section MODEL
variable {G : GT} {l : Launch} {sz a : Nat} {C : CT}
set_option maxHeartbeats 4000000 in
theorem tX7_fits_o {tc lc : Nat} (x1 x2 : Int32) (h31 : C 106 31 = nI tc) (htc : tc ≤ 6) (h33 : C 106 33 = nI lc) (hlc : lc ≤ 6) (hx : ¬ (isIx x1 lc ∧ isIx x2 tc)) : Ct G l yX7_fits cX7_fits 6 (some .int) 2 0 0 sz [.ref (a + 105), .int x1, .int x2] (B G a C) (Rw G a (.int (-1)) C) := by
  refine Ct.of (own := RX7) (mn := "fits") (L0 := [some (.ref (a + 105)), some (.int x1), some (.int x2), none, none, none]) (by decide +kernel) rfl rfl rfl (Nat.le_of_ble_eq_true rfl) rfl ?_
  refine V_aload_n dX7_fits_0 rfl ?_
  refine V_iload_n dX7_fits_1 rfl ?_
  refine V_callVw dX7_fits_2 kX7_92 ykX7_isLoop (by decide) rfl rfl (tX7_isLoop _ h33 (by omega)) rfl (Nat.le_of_ble_eq_true rfl) ⟨by decide, by decide, by decide, by decide⟩ ?_
  by_cases h1 : isIx x1 lc
  · refine V_if_eq dX7_fits_5 (fun z => absurd z (bI_ne0.mpr h1)) (fun _ => ?_)
    refine V_aload_n dX7_fits_8 rfl ?_
    refine V_iload_n dX7_fits_9 rfl ?_
    refine V_callVw dX7_fits_10 kX7_67 ykX7_isTry (by decide) rfl rfl (tX7_isTry _ h31 (by omega)) rfl (Nat.le_of_ble_eq_true rfl) ⟨by decide, by decide, by decide, by decide⟩ ?_
    refine V_if_ne dX7_fits_13 (fun z => absurd z (fun z => z (bI_f (fun q => hx ⟨h1, q⟩)))) (fun _ => ?_)
    refine V_iconst (v := (-1)) dX7_fits_16 (by decide) ?_
    refine V_iret dX7_fits_17 rfl rfl rfl ?_
    exact Rw_i rfl rfl
  · refine V_if_eq dX7_fits_5 (fun _ => ?_) (fun z => absurd (bI_f h1) z)
    refine V_iconst (v := (-1)) dX7_fits_16 (by decide) ?_
    refine V_iret dX7_fits_17 rfl rfl rfl ?_
    exact Rw_i rfl rfl
set_option maxHeartbeats 4000000 in
theorem tX7_fits {tc lc n len i li : Nat} (h31 : C 106 31 = nI tc) (htc : tc ≤ 6) (h33 : C 106 33 = nI lc) (hlc : lc ≤ 6) (hn : n < lc) (hi : i < tc) (hl : C 106 (213 + 38 * n) = nI len) (hlen : len ≤ 12) (h1 : 1 ≤ len) (hli : C 106 (38 + 25 * i) = nI li) (hli2 : li ≤ 12) : Ct G l yX7_fits cX7_fits 6 (some .int) 2 0 0 sz [.ref (a + 105), .int (nI n), .int (nI i)] (B G a C) (Rs G a (.int (if fitM (C 106) n len i li then nI (li / len) else -5)) C) := by
  refine Ct.of (own := RX7) (mn := "fits") (L0 := [some (.ref (a + 105)), some (.int (nI n)), some (.int (nI i)), none, none, none]) (by decide +kernel) rfl rfl rfl (Nat.le_of_ble_eq_true rfl) rfl ?_
  refine V_aload_n dX7_fits_0 rfl ?_
  refine V_iload_n dX7_fits_1 rfl ?_
  refine V_callVw dX7_fits_2 kX7_92 ykX7_isLoop (by decide) rfl rfl (tX7_isLoop _ h33 (by omega)) rfl (Nat.le_of_ble_eq_true rfl) ⟨by decide, by decide, by decide, by decide⟩ ?_
  refine V_if_eq dX7_fits_5 (fun z => absurd z (bI_ne0.mpr (isIx_nI hn (by omega)))) (fun _ => ?_)
  refine V_aload_n dX7_fits_8 rfl ?_
  refine V_iload_n dX7_fits_9 rfl ?_
  refine V_callVw dX7_fits_10 kX7_67 ykX7_isTry (by decide) rfl rfl (tX7_isTry _ h31 (by omega)) rfl (Nat.le_of_ble_eq_true rfl) ⟨by decide, by decide, by decide, by decide⟩ ?_
  refine V_if_ne dX7_fits_13 (fun _ => ?_) (fun z => absurd z ((bI_ne0.mpr (isIx_nI hi (by omega)))))
  refine V_aload_n dX7_fits_18 rfl ?_
  refine V_iload_n dX7_fits_19 rfl ?_
  refine V_callVu dX7_fits_20 kX7_101 ykX7_takeBody (by decide) rfl rfl (tX7_takeBody (by omega) hl hlen) rfl (Nat.le_of_ble_eq_true rfl) ⟨by decide, by decide, by decide, by decide⟩ ?_
  have e6 : mBody C n len 106 = C 106 := rfl
  have e5 : mBody C n len 105 3 = nI len := rfl
  have hsz : ∀ {sz2 : Nat}, Ct G l yX7_sizeOf cX7_sizeOf 2 (some .int) 0 0 0 sz2 [.ref (a + 105), .int (nI i)] (B G a (mBody C n len)) (Rw G a (.int (nI li)) (mBody C n len)) := by
    intro sz2
    have := tX7_sizeOf (G := G) (l := l) (sz := sz2) (a := a) (C := mBody C n len) (n := i) (by omega)
    rw [e6, hli] at this
    exact this
  have hne : ¬ nI len = 0 := by intro z; exact absurd ((ceq rfl nlit (by omega) (by omega)).mp z) (by omega)
  refine V_aload_n dX7_fits_23 rfl ?_
  refine V_iload_n dX7_fits_24 rfl ?_
  refine V_callVw dX7_fits_25 kX7_60 ykX7_sizeOf (by decide) rfl rfl hsz rfl (Nat.le_of_ble_eq_true rfl) ⟨by decide, by decide, by decide, by decide⟩ ?_
  refine V_aload_n dX7_fits_28 rfl ?_
  refine V_bget dX7_fits_29 fX7_95 (by decide) rfl (by (try simp only [mset_s, mset_n, pk_us, pk_un, ne_eq, Nat.reduceEqDiff, Nat.reduceAdd, not_false_eq_true, not_true_eq_false]) <;> rfl) ?_
  rw [e5]
  refine V_irem dX7_fits_32 hne ?_
  rw [pk_rem (by omega) (by omega) (by omega)]
  have key : ∀ (m k : Nat) (L5 : Option Value), k + m = li → V G l RX7 "fits" cX7_fits 6 (some .int) (rmd 2 0 0) E0 (Qm G (Rs G a (.int (if fitM (C 106) n len i li then nI (li / len) else -5)) C) sz 0 0) sz 0 0 45 [some (.ref (a + 105)), some (.int (nI n)), some (.int (nI i)), some (.int (bI (fitU (C 106) n len i li k))), some (.int (nI k)), L5] [] (B G a (mBody C n len)) := by
    intro m
    induction m with
    | zero =>
      intro k L5 hk
      obtain rfl : k = li := by omega
      refine V_iload dX7_fits_45 rfl ?_
      refine V_aload_n dX7_fits_47 rfl ?_
      refine V_iload_n dX7_fits_48 rfl ?_
      refine V_callVw dX7_fits_49 kX7_60 ykX7_sizeOf (by decide) rfl rfl hsz rfl (Nat.le_of_ble_eq_true rfl) ⟨by decide, by decide, by decide, by decide⟩ ?_
      refine V_icmp_ge dX7_fits_52 (fun _ => ?_) (fun z => absurd ((cle (by repeat (first | with_reducible rfl | with_reducible exact nlit | with_reducible apply nadd | with_reducible apply nmul | with_reducible apply nsub | with_reducible assumption | omega)) (by repeat (first | with_reducible rfl | with_reducible exact nlit | with_reducible apply nadd | with_reducible apply nmul | with_reducible apply nsub | with_reducible assumption | omega)) (by omega) (by omega)).mpr (by omega)) z)
      refine V_iload_n dX7_fits_140 rfl ?_
      by_cases hu : fitU (C 106) n len i k k
      · refine V_if_eq dX7_fits_141 (fun z => absurd z (bI_ne0.mpr hu)) (fun _ => ?_)
        refine V_aload_n dX7_fits_144 rfl ?_
        refine V_iload_n dX7_fits_145 rfl ?_
        refine V_callVw dX7_fits_146 kX7_60 ykX7_sizeOf (by decide) rfl rfl hsz rfl (Nat.le_of_ble_eq_true rfl) ⟨by decide, by decide, by decide, by decide⟩ ?_
        refine V_aload_n dX7_fits_149 rfl ?_
        refine V_bget dX7_fits_150 fX7_95 (by decide) rfl (by (try simp only [mset_s, mset_n, pk_us, pk_un, ne_eq, Nat.reduceEqDiff, Nat.reduceAdd, not_false_eq_true, not_true_eq_false]) <;> rfl) ?_
        rw [e5]
        refine V_idiv dX7_fits_153 hne ?_
        rw [pk_div (by omega) (by omega) (by omega)]
        refine V_goto dX7_fits_154 ?_
        refine V_iret dX7_fits_159 rfl rfl rfl ?_
        exact Rs_i (by rw [if_pos hu]) SC_body0
      · refine V_if_eq dX7_fits_141 (fun _ => ?_) (fun z => absurd (bI_f hu) z)
        refine V_bipush (v := (-5)) dX7_fits_157 (by decide) ?_
        refine V_iret dX7_fits_159 rfl rfl rfl ?_
        exact Rs_i (by rw [if_neg hu]) SC_body0
    | succ m ih =>
      intro k L5 hk
      have hm := Nat.mod_lt k (show 0 < len by omega)
      refine V_iload dX7_fits_45 rfl ?_
      refine V_aload_n dX7_fits_47 rfl ?_
      refine V_iload_n dX7_fits_48 rfl ?_
      refine V_callVw dX7_fits_49 kX7_60 ykX7_sizeOf (by decide) rfl rfl hsz rfl (Nat.le_of_ble_eq_true rfl) ⟨by decide, by decide, by decide, by decide⟩ ?_
      refine V_icmp_ge dX7_fits_52 (fun z => absurd z (fun z => absurd ((cle (by repeat (first | with_reducible rfl | with_reducible exact nlit | with_reducible apply nadd | with_reducible apply nmul | with_reducible apply nsub | with_reducible assumption | omega)) (by repeat (first | with_reducible rfl | with_reducible exact nlit | with_reducible apply nadd | with_reducible apply nmul | with_reducible apply nsub | with_reducible assumption | omega)) (by omega) (by omega)).mp z) (by omega))) (fun _ => ?_)
      refine V_aload_n dX7_fits_55 rfl ?_
      refine V_bget dX7_fits_56 fX7_28 (by decide) rfl (by (try simp only [mset_s, mset_n, pk_us, pk_un, ne_eq, Nat.reduceEqDiff, Nat.reduceAdd, not_false_eq_true, not_true_eq_false]) <;> rfl) ?_
      refine V_iload dX7_fits_59 rfl ?_
      refine V_aload_n dX7_fits_61 rfl ?_
      refine V_bget dX7_fits_62 fX7_95 (by decide) rfl (by (try simp only [mset_s, mset_n, pk_us, pk_un, ne_eq, Nat.reduceEqDiff, Nat.reduceAdd, not_false_eq_true, not_true_eq_false]) <;> rfl) ?_
      rw [e5]
      refine V_irem dX7_fits_65 hne ?_
      rw [pk_rem (by omega) (by omega) (by omega)]
      refine V_biald dX7_fits_66 (by decide) rfl (by repeat (first | with_reducible rfl | with_reducible exact nlit | with_reducible apply nadd | with_reducible apply nmul | with_reducible apply nsub | with_reducible assumption | omega)) (by omega) (by first | decide | omega) (by (try simp only [mset_s, mset_n, pk_us, pk_un, ne_eq, Nat.reduceEqDiff, Nat.reduceAdd, not_false_eq_true, not_true_eq_false]) <;> rfl) ?_
      refine V_iload dX7_fits_67 rfl ?_
      refine V_aload_n dX7_fits_69 rfl ?_
      refine V_bget dX7_fits_70 fX7_95 (by decide) rfl (by (try simp only [mset_s, mset_n, pk_us, pk_un, ne_eq, Nat.reduceEqDiff, Nat.reduceAdd, not_false_eq_true, not_true_eq_false]) <;> rfl) ?_
      rw [e5]
      refine V_idiv dX7_fits_73 hne ?_
      rw [pk_div (by omega) (by omega) (by omega)]
      refine V_aload_n dX7_fits_74 rfl ?_
      refine V_bget dX7_fits_75 fX7_31 (by decide) rfl (by (try simp only [mset_s, mset_n, pk_us, pk_un, ne_eq, Nat.reduceEqDiff, Nat.reduceAdd, not_false_eq_true, not_true_eq_false]) <;> rfl) ?_
      refine V_iload dX7_fits_78 rfl ?_
      refine V_aload_n dX7_fits_80 rfl ?_
      refine V_bget dX7_fits_81 fX7_95 (by decide) rfl (by (try simp only [mset_s, mset_n, pk_us, pk_un, ne_eq, Nat.reduceEqDiff, Nat.reduceAdd, not_false_eq_true, not_true_eq_false]) <;> rfl) ?_
      rw [e5]
      refine V_irem dX7_fits_84 hne ?_
      rw [pk_rem (by omega) (by omega) (by omega)]
      refine V_biald dX7_fits_85 (by decide) rfl (by repeat (first | with_reducible rfl | with_reducible exact nlit | with_reducible apply nadd | with_reducible apply nmul | with_reducible apply nsub | with_reducible assumption | omega)) (by omega) (by first | decide | omega) (by (try simp only [mset_s, mset_n, pk_us, pk_un, ne_eq, Nat.reduceEqDiff, Nat.reduceAdd, not_false_eq_true, not_true_eq_false]) <;> rfl) ?_
      rw [show mBody C n len 112 (k % len) = lnM (C 106) n (k % len) from tbF_at hm, show mBody C n len 113 (k % len) = lsM (C 106) n (k % len) from tbF_at hm]
      refine V_imul dX7_fits_86 ?_
      refine V_iadd dX7_fits_87 ?_
      refine V_istore dX7_fits_88 (by decide) (by dsimp only [List.set] <;> rfl) ?_
      refine V_iload_n dX7_fits_90 rfl ?_
      have hst : fitU (C 106) n len i li (k + 1) ↔ (fitU (C 106) n len i li k ∧ C 106 (38 + 25 * i + 1 + 2 * k) = lvM (C 106) n (k % len) ∧ C 106 (38 + 25 * i + 2 + 2 * k) = lnM (C 106) n (k % len) + nI (k / len) * lsM (C 106) n (k % len)) := by
        refine ⟨fun q => ⟨⟨q.1, fun j hj => q.2 j (by omega)⟩, q.2 k (by omega)⟩, fun q => ⟨q.1.1, fun j hj => ?_⟩⟩
        rcases Nat.lt_or_ge j k with z | z
        · exact q.1.2 j z
        · obtain rfl : j = k := by omega
          exact q.2
      have go : ∀ (b : Int32), bI (fitU (C 106) n len i li (k + 1)) = b → V G l RX7 "fits" cX7_fits 6 (some .int) (rmd 2 0 0) E0 (Qm G (Rs G a (.int (if fitM (C 106) n len i li then nI (li / len) else -5)) C) sz 0 0) sz 0 0 133 [some (.ref (a + 105)), some (.int (nI n)), some (.int (nI i)), some (.int (bI (fitU (C 106) n len i li k))), some (.int (nI k)), some (.int (lnM (C 106) n (k % len) + nI (k / len) * lsM (C 106) n (k % len)))] [.int b] (B G a (mBody C n len)) := by
        intro b hb
        refine V_istore_n dX7_fits_133 (by decide) (by dsimp only [List.set] <;> rfl) ?_
        refine V_iinc dX7_fits_134 rfl (ninc _) (by decide) (by dsimp only [List.set] <;> rfl) ?_
        refine V_goto dX7_fits_137 ?_
        rw [← hb]
        exact ih (k + 1) _ (by omega)
      by_cases hu : fitU (C 106) n len i li k
      · refine V_if_eq dX7_fits_91 (fun z => absurd z (bI_ne0.mpr hu)) (fun _ => ?_)
        refine V_aload_n dX7_fits_94 rfl ?_
        refine V_iload_n dX7_fits_95 rfl ?_
        refine V_iload dX7_fits_96 rfl ?_
        refine V_callVw dX7_fits_98 kX7_71 ykX7_verbOf (by decide) rfl rfl (tX7_verbOf (by omega) (by omega)) rfl (Nat.le_of_ble_eq_true rfl) ⟨by decide, by decide, by decide, by decide⟩ ?_
        refine V_aload_n dX7_fits_101 rfl ?_
        refine V_bget dX7_fits_102 fX7_25 (by decide) rfl (by (try simp only [mset_s, mset_n, pk_us, pk_un, ne_eq, Nat.reduceEqDiff, Nat.reduceAdd, not_false_eq_true, not_true_eq_false]) <;> rfl) ?_
        refine V_iload dX7_fits_105 rfl ?_
        refine V_aload_n dX7_fits_107 rfl ?_
        refine V_bget dX7_fits_108 fX7_95 (by decide) rfl (by (try simp only [mset_s, mset_n, pk_us, pk_un, ne_eq, Nat.reduceEqDiff, Nat.reduceAdd, not_false_eq_true, not_true_eq_false]) <;> rfl) ?_
        rw [e5]
        refine V_irem dX7_fits_111 hne ?_
        rw [pk_rem (by omega) (by omega) (by omega)]
        refine V_biald dX7_fits_112 (by decide) rfl (by repeat (first | with_reducible rfl | with_reducible exact nlit | with_reducible apply nadd | with_reducible apply nmul | with_reducible apply nsub | with_reducible assumption | omega)) (by omega) (by first | decide | omega) (by (try simp only [mset_s, mset_n, pk_us, pk_un, ne_eq, Nat.reduceEqDiff, Nat.reduceAdd, not_false_eq_true, not_true_eq_false]) <;> rfl) ?_
        rw [e6, show mBody C n len 111 (k % len) = lvM (C 106) n (k % len) from tbF_at hm]
        refine V_icmp_ne dX7_fits_113 (fun c113 => ?_) (fun c113 => ?_)
        · refine V_iconst (v := 0) dX7_fits_132 (by decide) ?_
          exact go 0 (bI_f (fun z => c113 (hst.mp z).2.1))
        refine V_aload_n dX7_fits_116 rfl ?_
        refine V_iload_n dX7_fits_117 rfl ?_
        refine V_iload dX7_fits_118 rfl ?_
        refine V_callVw dX7_fits_120 kX7_75 ykX7_numberOf (by decide) rfl rfl (tX7_numberOf (by omega) (by omega)) rfl (Nat.le_of_ble_eq_true rfl) ⟨by decide, by decide, by decide, by decide⟩ ?_
        rw [e6]
        refine V_iload dX7_fits_123 rfl ?_
        refine V_icmp_ne dX7_fits_125 (fun c125 => ?_) (fun c125 => ?_)
        · refine V_iconst (v := 0) dX7_fits_132 (by decide) ?_
          exact go 0 (bI_f (fun z => c125 (hst.mp z).2.2))
        · refine V_iconst (v := 1) dX7_fits_128 (by decide) ?_
          refine V_goto dX7_fits_129 ?_
          exact go 1 (bI_t (hst.mpr ⟨hu, c113, c125⟩))
      · refine V_if_eq dX7_fits_91 (fun _ => ?_) (fun z => absurd (bI_f hu) z)
        refine V_iconst (v := 0) dX7_fits_132 (by decide) ?_
        exact go 0 (bI_f (fun z => hu (hst.mp z).1))
  have h0 : fitU (C 106) n len i li 0 ↔ li % len = 0 := ⟨fun q => q.1, fun q => ⟨q, fun k hk => absurd hk (by omega)⟩⟩
  have k0 := key li 0 none (by omega)
  by_cases hm : li % len = 0
  · refine V_if_ne dX7_fits_33 (fun z => absurd z (fun z => z (by rw [hm]; rfl))) (fun _ => ?_)
    refine V_iconst (v := 1) dX7_fits_36 (by decide) ?_
    refine V_goto dX7_fits_37 ?_
    refine V_istore_n dX7_fits_41 (by decide) (by dsimp only [List.set] <;> rfl) ?_
    refine V_iconst (v := 0) dX7_fits_42 (by decide) ?_
    refine V_istore dX7_fits_43 (by decide) (by dsimp only [List.set] <;> rfl) ?_
    rw [bI_t (h0.mpr hm)] at k0
    exact k0
  · refine V_if_ne dX7_fits_33 (fun _ => ?_) (fun z => absurd z ((by intro z; exact hm ((ceq rfl nlit (by have := Nat.mod_le li len; omega) (by omega)).mp z))))
    refine V_iconst (v := 0) dX7_fits_40 (by decide) ?_
    refine V_istore_n dX7_fits_41 (by decide) (by dsimp only [List.set] <;> rfl) ?_
    refine V_iconst (v := 0) dX7_fits_42 (by decide) ?_
    refine V_istore dX7_fits_43 (by decide) (by dsimp only [List.set] <;> rfl) ?_
    rw [bI_f (fun z => hm (h0.mp z))] at k0
    exact k0
set_option maxHeartbeats 4000000 in
theorem tX7_mostTurns_o {lc : Nat} (x1 : Int32) (h33 : C 106 33 = nI lc) (hlc : lc ≤ 6) (hx : ¬ isIx x1 lc) : Ct G l yX7_mostTurns cX7_mostTurns 6 (some .int) 2 0 0 sz [.ref (a + 105), .int x1] (B G a C) (Rw G a (.int (-1)) C) := by
  refine Ct.of (own := RX7) (mn := "mostTurns") (L0 := [some (.ref (a + 105)), some (.int x1), none, none, none, none]) (by decide +kernel) rfl rfl rfl (Nat.le_of_ble_eq_true rfl) rfl ?_
  refine V_aload_n dX7_mostTurns_0 rfl ?_
  refine V_iload_n dX7_mostTurns_1 rfl ?_
  refine V_callVw dX7_mostTurns_2 kX7_92 ykX7_isLoop (by decide) rfl rfl (tX7_isLoop _ h33 (by omega)) rfl (Nat.le_of_ble_eq_true rfl) ⟨by decide, by decide, by decide, by decide⟩ ?_
  refine V_if_ne dX7_mostTurns_5 (fun z => absurd z (fun z => z (bI_f hx))) (fun _ => ?_)
  refine V_iconst (v := (-1)) dX7_mostTurns_8 (by decide) ?_
  refine V_iret dX7_mostTurns_9 rfl rfl rfl ?_
  exact Rw_i rfl rfl
set_option maxHeartbeats 4000000 in
theorem tX7_mostTurns {lc n len : Nat} (h33 : C 106 33 = nI lc) (hlc : lc ≤ 6) (hn : n < lc) (hl : C 106 (213 + 38 * n) = nI len) (hlen : len ≤ 12) : Ct G l yX7_mostTurns cX7_mostTurns 6 (some .int) 2 0 0 sz [.ref (a + 105), .int (nI n)] (B G a C) (Rs G a (.int (mtF (lvM (C 106) n) (lnM (C 106) n) (lsM (C 106) n) len)) C) := by
  refine Ct.of (own := RX7) (mn := "mostTurns") (L0 := [some (.ref (a + 105)), some (.int (nI n)), none, none, none, none]) (by decide +kernel) rfl rfl rfl (Nat.le_of_ble_eq_true rfl) rfl ?_
  refine V_aload_n dX7_mostTurns_0 rfl ?_
  refine V_iload_n dX7_mostTurns_1 rfl ?_
  refine V_callVw dX7_mostTurns_2 kX7_92 ykX7_isLoop (by decide) rfl rfl (tX7_isLoop _ h33 (by omega)) rfl (Nat.le_of_ble_eq_true rfl) ⟨by decide, by decide, by decide, by decide⟩ ?_
  refine V_if_ne dX7_mostTurns_5 (fun _ => ?_) (fun z => absurd z ((bI_ne0.mpr (isIx_nI hn (by omega)))))
  refine V_aload_n dX7_mostTurns_10 rfl ?_
  refine V_iload_n dX7_mostTurns_11 rfl ?_
  refine V_callVu dX7_mostTurns_12 kX7_101 ykX7_takeBody (by decide) rfl rfl (tX7_takeBody (by omega) hl hlen) rfl (Nat.le_of_ble_eq_true rfl) ⟨by decide, by decide, by decide, by decide⟩ ?_
  have e5 : mBody C n len 105 3 = nI len := rfl
  have key : ∀ (m k : Nat) (L4 L5 : Option Value), k + m = len → V G l RX7 "mostTurns" cX7_mostTurns 6 (some .int) (rmd 2 0 0) E0 (Qm G (Rs G a (.int (mtF (lvM (C 106) n) (lnM (C 106) n) (lsM (C 106) n) len)) C) sz 0 0) sz 0 0 20 [some (.ref (a + 105)), some (.int (nI n)), some (.int (mtF (lvM (C 106) n) (lnM (C 106) n) (lsM (C 106) n) k)), some (.int (nI k)), L4, L5] [] (B G a (mBody C n len)) := by
    intro m
    induction m with
    | zero =>
      intro k L4 L5 hk
      obtain rfl : k = len := by omega
      refine V_iload_n dX7_mostTurns_20 rfl ?_
      refine V_aload_n dX7_mostTurns_21 rfl ?_
      refine V_bget dX7_mostTurns_22 fX7_95 (by decide) rfl (by (try simp only [mset_s, mset_n, pk_us, pk_un, ne_eq, Nat.reduceEqDiff, Nat.reduceAdd, not_false_eq_true, not_true_eq_false]) <;> rfl) ?_
      rw [e5]
      refine V_icmp_ge dX7_mostTurns_25 (fun _ => ?_) (fun z => absurd ((cle (by repeat (first | with_reducible rfl | with_reducible exact nlit | with_reducible apply nadd | with_reducible apply nmul | with_reducible apply nsub | with_reducible assumption | omega)) (by repeat (first | with_reducible rfl | with_reducible exact nlit | with_reducible apply nadd | with_reducible apply nmul | with_reducible apply nsub | with_reducible assumption | omega)) (by omega) (by omega)).mpr (by omega)) z)
      refine V_iload_n dX7_mostTurns_119 rfl ?_
      refine V_iret dX7_mostTurns_120 rfl rfl rfl ?_
      exact Rs_i rfl SC_body0
    | succ m ih =>
      intro k L4 L5 hk
      have hk2 : k < len := by omega
      generalize hM : mtF (lvM (C 106) n) (lnM (C 106) n) (lsM (C 106) n) k = M
      have go : ∀ L4 L5 : Option Value, V G l RX7 "mostTurns" cX7_mostTurns 6 (some .int) (rmd 2 0 0) E0 (Qm G (Rs G a (.int (mtF (lvM (C 106) n) (lnM (C 106) n) (lsM (C 106) n) len)) C) sz 0 0) sz 0 0 20 [some (.ref (a + 105)), some (.int (nI n)), some (.int (mtStep (lvM (C 106) n k) (lnM (C 106) n k) (lsM (C 106) n k) M)), some (.int (nI (k + 1))), L4, L5] [] (B G a (mBody C n len)) := by
        intro L4 L5
        have := ih (k + 1) L4 L5 (by omega)
        rw [mtF, hM] at this
        exact this
      have tail : ∀ (u : Int32) (L4 L5 : Option Value), mtU (lvM (C 106) n k) (lnM (C 106) n k) (lsM (C 106) n k) = u → V G l RX7 "mostTurns" cX7_mostTurns 6 (some .int) (rmd 2 0 0) E0 (Qm G (Rs G a (.int (mtF (lvM (C 106) n) (lnM (C 106) n) (lsM (C 106) n) len)) C) sz 0 0) sz 0 0 85 [some (.ref (a + 105)), some (.int (nI n)), some (.int M), some (.int (nI k)), L4, L5] [.int u] (B G a (mBody C n len)) := by
        intro u L4 L5 hu
        unfold mtStep at go
        rw [hu] at go
        refine V_istore dX7_mostTurns_85 (by decide) (by dsimp only [List.set] <;> rfl) ?_
        refine V_iload dX7_mostTurns_87 rfl ?_
        refine V_bipush (v := (-5)) dX7_mostTurns_89 (by decide) ?_
        refine V_icmp_eq dX7_mostTurns_91 (fun c91 => ?_) (fun c91 => ?_)
        · refine V_iload_n dX7_mostTurns_111 rfl ?_
          refine V_istore_n dX7_mostTurns_112 (by decide) (by dsimp only [List.set] <;> rfl) ?_
          refine V_iinc dX7_mostTurns_113 rfl (ninc _) (by decide) (by dsimp only [List.set] <;> rfl) ?_
          refine V_goto dX7_mostTurns_116 ?_
          have g := go L4 (some (.int u))
          rw [if_neg (fun z => z.1 c91)] at g
          exact g
        refine V_iload_n dX7_mostTurns_94 rfl ?_
        refine V_bipush (v := (-5)) dX7_mostTurns_95 (by decide) ?_
        refine V_icmp_eq dX7_mostTurns_97 (fun c97 => ?_) (fun c97 => ?_)
        · refine V_iload dX7_mostTurns_106 rfl ?_
          refine V_goto dX7_mostTurns_108 ?_
          refine V_istore_n dX7_mostTurns_112 (by decide) (by dsimp only [List.set] <;> rfl) ?_
          refine V_iinc dX7_mostTurns_113 rfl (ninc _) (by decide) (by dsimp only [List.set] <;> rfl) ?_
          refine V_goto dX7_mostTurns_116 ?_
          have g := go L4 (some (.int u))
          rw [if_pos ⟨c91, Or.inl c97⟩] at g
          exact g
        refine V_iload dX7_mostTurns_100 rfl ?_
        refine V_iload_n dX7_mostTurns_102 rfl ?_
        refine V_icmp_ge dX7_mostTurns_103 (fun c103 => ?_) (fun c103 => ?_)
        · refine V_iload_n dX7_mostTurns_111 rfl ?_
          refine V_istore_n dX7_mostTurns_112 (by decide) (by dsimp only [List.set] <;> rfl) ?_
          refine V_iinc dX7_mostTurns_113 rfl (ninc _) (by decide) (by dsimp only [List.set] <;> rfl) ?_
          refine V_goto dX7_mostTurns_116 ?_
          have g := go L4 (some (.int u))
          rw [if_neg (fun z => z.2.elim c97 (fun q => by rw [i_lt] at q; rw [i_le] at c103; omega))] at g
          exact g
        · refine V_iload dX7_mostTurns_106 rfl ?_
          refine V_goto dX7_mostTurns_108 ?_
          refine V_istore_n dX7_mostTurns_112 (by decide) (by dsimp only [List.set] <;> rfl) ?_
          refine V_iinc dX7_mostTurns_113 rfl (ninc _) (by decide) (by dsimp only [List.set] <;> rfl) ?_
          refine V_goto dX7_mostTurns_116 ?_
          have g := go L4 (some (.int u))
          rw [if_pos ⟨c91, Or.inr (by rw [i_lt]; rw [i_le] at c103; omega)⟩] at g
          exact g
      have ev : mBody C n len 111 k = lvM (C 106) n k := tbF_at hk2
      have en : mBody C n len 112 k = lnM (C 106) n k := tbF_at hk2
      have es : mBody C n len 113 k = lsM (C 106) n k := tbF_at hk2
      refine V_iload_n dX7_mostTurns_20 rfl ?_
      refine V_aload_n dX7_mostTurns_21 rfl ?_
      refine V_bget dX7_mostTurns_22 fX7_95 (by decide) rfl (by (try simp only [mset_s, mset_n, pk_us, pk_un, ne_eq, Nat.reduceEqDiff, Nat.reduceAdd, not_false_eq_true, not_true_eq_false]) <;> rfl) ?_
      rw [e5]
      refine V_icmp_ge dX7_mostTurns_25 (fun z => absurd z (fun z => absurd ((cle (by repeat (first | with_reducible rfl | with_reducible exact nlit | with_reducible apply nadd | with_reducible apply nmul | with_reducible apply nsub | with_reducible assumption | omega)) (by repeat (first | with_reducible rfl | with_reducible exact nlit | with_reducible apply nadd | with_reducible apply nmul | with_reducible apply nsub | with_reducible assumption | omega)) (by omega) (by omega)).mp z) (by omega))) (fun _ => ?_)
      refine V_aload_n dX7_mostTurns_28 rfl ?_
      refine V_bget dX7_mostTurns_29 fX7_31 (by decide) rfl (by (try simp only [mset_s, mset_n, pk_us, pk_un, ne_eq, Nat.reduceEqDiff, Nat.reduceAdd, not_false_eq_true, not_true_eq_false]) <;> rfl) ?_
      refine V_iload_n dX7_mostTurns_32 rfl ?_
      refine V_biald dX7_mostTurns_33 (by decide) rfl (by repeat (first | with_reducible rfl | with_reducible exact nlit | with_reducible apply nadd | with_reducible apply nmul | with_reducible apply nsub | with_reducible assumption | omega)) (by omega) (by first | decide | omega) (by (try simp only [mset_s, mset_n, pk_us, pk_un, ne_eq, Nat.reduceEqDiff, Nat.reduceAdd, not_false_eq_true, not_true_eq_false]) <;> rfl) ?_
      rw [es]
      refine V_istore dX7_mostTurns_34 (by decide) (by dsimp only [List.set] <;> rfl) ?_
      refine V_iload dX7_mostTurns_36 rfl ?_
      by_cases ht : lsM (C 106) n k = 0
      · refine V_if_ne dX7_mostTurns_38 (fun z => absurd z (fun z => z ht)) (fun _ => ?_)
        refine V_bipush (v := (-5)) dX7_mostTurns_41 (by decide) ?_
        refine V_goto dX7_mostTurns_43 ?_
        exact tail _ _ _ (by unfold mtU; rw [if_pos ht])
      refine V_if_ne dX7_mostTurns_38 (fun _ => ?_) (fun z => absurd z ht)
      refine V_iconst (v := 1) dX7_mostTurns_46 (by decide) ?_
      refine V_iload dX7_mostTurns_47 rfl ?_
      refine V_if_le dX7_mostTurns_49 (fun c49 => ?_) (fun c49 => ?_)
      · refine V_aload_n dX7_mostTurns_74 rfl ?_
        refine V_bget dX7_mostTurns_75 fX7_28 (by decide) rfl (by (try simp only [mset_s, mset_n, pk_us, pk_un, ne_eq, Nat.reduceEqDiff, Nat.reduceAdd, not_false_eq_true, not_true_eq_false]) <;> rfl) ?_
        refine V_iload_n dX7_mostTurns_78 rfl ?_
        refine V_biald dX7_mostTurns_79 (by decide) rfl (by repeat (first | with_reducible rfl | with_reducible exact nlit | with_reducible apply nadd | with_reducible apply nmul | with_reducible apply nsub | with_reducible assumption | omega)) (by omega) (by first | decide | omega) (by (try simp only [mset_s, mset_n, pk_us, pk_un, ne_eq, Nat.reduceEqDiff, Nat.reduceAdd, not_false_eq_true, not_true_eq_false]) <;> rfl) ?_
        rw [en]
        refine V_iload dX7_mostTurns_80 rfl ?_
        refine V_ineg dX7_mostTurns_82 ?_
        refine V_idiv dX7_mostTurns_83 (by intro z; have z2 := congrArg (fun w : Int32 => -w) z; simp only [Int32.neg_neg] at z2; exact ht z2) ?_
        refine V_iadd dX7_mostTurns_84 ?_
        exact tail _ _ _ (by unfold mtU; rw [if_neg ht, if_neg (fun z => by rw [i_lt] at z; rw [i_le] at c49; omega)])
      · refine V_aload_n dX7_mostTurns_52 rfl ?_
        refine V_bget dX7_mostTurns_53 fX7_25 (by decide) rfl (by (try simp only [mset_s, mset_n, pk_us, pk_un, ne_eq, Nat.reduceEqDiff, Nat.reduceAdd, not_false_eq_true, not_true_eq_false]) <;> rfl) ?_
        refine V_iload_n dX7_mostTurns_56 rfl ?_
        refine V_biald dX7_mostTurns_57 (by decide) rfl (by repeat (first | with_reducible rfl | with_reducible exact nlit | with_reducible apply nadd | with_reducible apply nmul | with_reducible apply nsub | with_reducible assumption | omega)) (by omega) (by first | decide | omega) (by (try simp only [mset_s, mset_n, pk_us, pk_un, ne_eq, Nat.reduceEqDiff, Nat.reduceAdd, not_false_eq_true, not_true_eq_false]) <;> rfl) ?_
        rw [ev]
        refine V_callSw dX7_mostTurns_58 kX7_56 ykX7_greatest (tX7_greatest _) rfl (Nat.le_of_ble_eq_true rfl) ⟨by decide, by decide, by decide, by decide⟩ ?_
        refine V_aload_n dX7_mostTurns_61 rfl ?_
        refine V_bget dX7_mostTurns_62 fX7_28 (by decide) rfl (by (try simp only [mset_s, mset_n, pk_us, pk_un, ne_eq, Nat.reduceEqDiff, Nat.reduceAdd, not_false_eq_true, not_true_eq_false]) <;> rfl) ?_
        refine V_iload_n dX7_mostTurns_65 rfl ?_
        refine V_biald dX7_mostTurns_66 (by decide) rfl (by repeat (first | with_reducible rfl | with_reducible exact nlit | with_reducible apply nadd | with_reducible apply nmul | with_reducible apply nsub | with_reducible assumption | omega)) (by omega) (by first | decide | omega) (by (try simp only [mset_s, mset_n, pk_us, pk_un, ne_eq, Nat.reduceEqDiff, Nat.reduceAdd, not_false_eq_true, not_true_eq_false]) <;> rfl) ?_
        rw [en]
        refine V_isub dX7_mostTurns_67 ?_
        refine V_iload dX7_mostTurns_68 rfl ?_
        refine V_idiv dX7_mostTurns_70 ht ?_
        refine V_goto dX7_mostTurns_71 ?_
        refine V_iadd dX7_mostTurns_84 ?_
        exact tail _ _ _ (by unfold mtU; rw [if_neg ht, if_pos (by rw [i_lt]; rw [i_le] at c49; omega)])
  refine V_bipush (v := (-5)) dX7_mostTurns_15 (by decide) ?_
  refine V_istore_n dX7_mostTurns_17 (by decide) (by dsimp only [List.set] <;> rfl) ?_
  refine V_iconst (v := 0) dX7_mostTurns_18 (by decide) ?_
  refine V_istore_n dX7_mostTurns_19 (by decide) (by dsimp only [List.set] <;> rfl) ?_
  exact key len 0 _ _ (by omega)
end MODEL
