/-! TryLoopsModel: canFold, fold, sum, rowsOfVerbs, likeNumbers, bestPair. -/
abbrev foldU (z : Nat → Int32) (n len s k : Nat) : Prop := len % s = 0 ∧ 2 * s ≤ len ∧ ∀ m, m < k → s ≤ m → z (38 + 25 * n + 1 + 2 * m) = z (38 + 25 * n + 1 + 2 * (m - s)) ∧ z (38 + 25 * n + 2 + 2 * m) - z (38 + 25 * n + 2 + 2 * (m - s)) = z (38 + 25 * n + 2 + 2 * (m % s + s)) - z (38 + 25 * n + 2 + 2 * (m % s))
def sumF (f : Nat → Int32) : Nat → Int32
  | 0 => 0
  | k + 1 => sumF f k + f k
def cntEq (f g : Nat → Int32) : Nat → Int32
  | 0 => 0
  | k + 1 => cntEq f g k + bI (f k = g k)
def rowsN (lk : Nat → Nat → Bool) : Nat → Int32
  | 0 => 0
  | i + 1 => rowsN lk i + bI (∀ m, m < i → lk i m = false)
def bpS (lk : Nat → Nat → Bool) (cn : Nat → Nat → Int32) (i j : Nat) (s : Int32 × Int32) : Int32 × Int32 := if lk i j = true ∧ s.2 < cn i j then (10 * nI i + nI j, cn i j) else s
def bpI (lk : Nat → Nat → Bool) (cn : Nat → Nat → Int32) (i : Nat) : Nat → Nat → Int32 × Int32 → Int32 × Int32
  | _, 0, s => s
  | j, m + 1, s => bpI lk cn i (j + 1) m (bpS lk cn i j s)
def bpO (lk : Nat → Nat → Bool) (cn : Nat → Nat → Int32) (tc : Nat) : Nat → Nat → Int32 × Int32 → Int32 × Int32
  | _, 0, s => s
  | i, m + 1, s => bpO lk cn tc (i + 1) m (bpI lk cn i (i + 1) (tc - (i + 1)) s)
def lkM (z : Nat → Int32) (tl : Nat → Nat) (i j : Nat) : Bool := decide (likeU z i j (tl i) (tl j) (tl i))
def cnM (z : Nat → Int32) (tl : Nat → Nat) (i j : Nat) : Int32 := cntEq (fun k => z (38 + 25 * i + 2 + 2 * k)) (fun k => z (38 + 25 * j + 2 + 2 * k)) (tl i)
def tlM (z : Nat → Int32) (tl : Nat → Nat) (tc : Nat) : Prop := ∀ i, i < tc → z (38 + 25 * i) = nI (tl i) ∧ tl i ≤ 12
section MODEL
variable {G : GT} {l : Launch} {sz a : Nat} {C : CT}
set_option maxHeartbeats 4000000 in
theorem tX7_canFold {n len s : Nat} (hn : n < 7) (hl : C 106 (38 + 25 * n) = nI len) (hlen : len ≤ 12) (hs : 1 ≤ s) (hs2 : s ≤ 12) : Ct G l yX7_canFold cX7_canFold 7 (some .boolean) 1 0 0 sz [.ref (a + 105), .int (nI n), .int (nI s)] (B G a C) (Rw G a (.int (bI (foldU (C 106) n len s len))) C) := by
  refine Ct.of (own := RX7) (mn := "canFold") (L0 := [some (.ref (a + 105)), some (.int (nI n)), some (.int (nI s)), none, none, none, none]) (by decide +kernel) rfl rfl rfl (Nat.le_of_ble_eq_true rfl) rfl ?_
  refine V_aload_n dX7_canFold_0 rfl ?_
  refine V_iload_n dX7_canFold_1 rfl ?_
  refine V_callVw dX7_canFold_2 kX7_60 ykX7_sizeOf (by decide) rfl rfl (tX7_sizeOf (by omega)) rfl (Nat.le_of_ble_eq_true rfl) ⟨by decide, by decide, by decide, by decide⟩ ?_
  rw [hl]
  refine V_istore_n dX7_canFold_5 (by decide) (by dsimp only [List.set] <;> rfl) ?_
  refine V_iload_n dX7_canFold_6 rfl ?_
  refine V_iload_n dX7_canFold_7 rfl ?_
  refine V_irem dX7_canFold_8 (by intro z; exact absurd ((ceq rfl nlit (by omega) (by omega)).mp z) (by omega)) ?_
  rw [pk_rem (by omega) (by omega) (by omega)]
  have key : ∀ (m k : Nat) (L6 : Option Value), s ≤ k → k + m = len → V G l RX7 "canFold" cX7_canFold 7 (some .boolean) (rmd 1 0 0) E0 (Qm G (Rw G a (.int (bI (foldU (C 106) n len s len))) C) sz 0 0) sz 0 0 29 [some (.ref (a + 105)), some (.int (nI n)), some (.int (nI s)), some (.int (nI len)), some (.int (bI (foldU (C 106) n len s k))), some (.int (nI k)), L6] [] (B G a C) := by
    intro m
    induction m with
    | zero =>
      intro k L6 hsk hk
      obtain rfl : k = len := by omega
      refine V_iload dX7_canFold_29 rfl ?_
      refine V_iload_n dX7_canFold_31 rfl ?_
      refine V_icmp_ge dX7_canFold_32 (fun _ => ?_) (fun z => absurd ((cle (by repeat (first | with_reducible rfl | with_reducible exact nlit | with_reducible apply nadd | with_reducible apply nmul | with_reducible apply nsub | with_reducible assumption | omega)) (by repeat (first | with_reducible rfl | with_reducible exact nlit | with_reducible apply nadd | with_reducible apply nmul | with_reducible apply nsub | with_reducible assumption | omega)) (by omega) (by omega)).mpr (by omega)) z)
      refine V_iload dX7_canFold_117 rfl ?_
      refine V_zret dX7_canFold_119 rfl (by first | rfl | exact bI_nar) rfl rfl ?_
      exact Rw_i rfl rfl
    | succ m ih =>
      intro k L6 hsk hk
      refine V_iload dX7_canFold_29 rfl ?_
      refine V_iload_n dX7_canFold_31 rfl ?_
      refine V_icmp_ge dX7_canFold_32 (fun z => absurd z (fun z => absurd ((cle (by repeat (first | with_reducible rfl | with_reducible exact nlit | with_reducible apply nadd | with_reducible apply nmul | with_reducible apply nsub | with_reducible assumption | omega)) (by repeat (first | with_reducible rfl | with_reducible exact nlit | with_reducible apply nadd | with_reducible apply nmul | with_reducible apply nsub | with_reducible assumption | omega)) (by omega) (by omega)).mp z) (by omega))) (fun _ => ?_)
      refine V_iload dX7_canFold_35 rfl ?_
      by_cases hu : foldU (C 106) n len s k
      · have hms : k % s < s := Nat.mod_lt _ (by omega)
        have hl2 := hu.2.1
        refine V_if_eq dX7_canFold_37 (fun z => absurd z (bI_ne0.mpr hu)) (fun _ => ?_)
        refine V_aload_n dX7_canFold_40 rfl ?_
        refine V_iload_n dX7_canFold_41 rfl ?_
        refine V_iload dX7_canFold_42 rfl ?_
        refine V_iload_n dX7_canFold_44 rfl ?_
        refine V_irem dX7_canFold_45 (by intro z; exact absurd ((ceq rfl nlit (by omega) (by omega)).mp z) (by omega)) ?_
        rw [pk_rem (by omega) (by omega) (by omega)]
        refine V_iload_n dX7_canFold_46 rfl ?_
        refine V_iadd dX7_canFold_47 ?_
        rw [show nI (k % s) + nI s = nI (k % s + s) from nI_add _ _]
        refine V_callVw dX7_canFold_48 kX7_75 ykX7_numberOf (by decide) rfl rfl (tX7_numberOf (by omega) (by omega)) rfl (Nat.le_of_ble_eq_true rfl) ⟨by decide, by decide, by decide, by decide⟩ ?_
        refine V_aload_n dX7_canFold_51 rfl ?_
        refine V_iload_n dX7_canFold_52 rfl ?_
        refine V_iload dX7_canFold_53 rfl ?_
        refine V_iload_n dX7_canFold_55 rfl ?_
        refine V_irem dX7_canFold_56 (by intro z; exact absurd ((ceq rfl nlit (by omega) (by omega)).mp z) (by omega)) ?_
        rw [pk_rem (by omega) (by omega) (by omega)]
        refine V_callVw dX7_canFold_57 kX7_75 ykX7_numberOf (by decide) rfl rfl (tX7_numberOf (by omega) (by omega)) rfl (Nat.le_of_ble_eq_true rfl) ⟨by decide, by decide, by decide, by decide⟩ ?_
        refine V_isub dX7_canFold_60 ?_
        refine V_istore dX7_canFold_61 (by decide) (by dsimp only [List.set] <;> rfl) ?_
        refine V_aload_n dX7_canFold_63 rfl ?_
        refine V_iload_n dX7_canFold_64 rfl ?_
        refine V_iload dX7_canFold_65 rfl ?_
        refine V_callVw dX7_canFold_67 kX7_71 ykX7_verbOf (by decide) rfl rfl (tX7_verbOf (by omega) (by omega)) rfl (Nat.le_of_ble_eq_true rfl) ⟨by decide, by decide, by decide, by decide⟩ ?_
        refine V_aload_n dX7_canFold_70 rfl ?_
        refine V_iload_n dX7_canFold_71 rfl ?_
        refine V_iload dX7_canFold_72 rfl ?_
        refine V_iload_n dX7_canFold_74 rfl ?_
        refine V_isub dX7_canFold_75 ?_
        rw [show nI k - nI s = nI (k - s) from pk_sub hsk]
        refine V_callVw dX7_canFold_76 kX7_71 ykX7_verbOf (by decide) rfl rfl (tX7_verbOf (by omega) (by omega)) rfl (Nat.le_of_ble_eq_true rfl) ⟨by decide, by decide, by decide, by decide⟩ ?_
        have e : foldU (C 106) n len s (k + 1) ↔ (C 106 (38 + 25 * n + 1 + 2 * k) = C 106 (38 + 25 * n + 1 + 2 * (k - s)) ∧ C 106 (38 + 25 * n + 2 + 2 * k) - C 106 (38 + 25 * n + 2 + 2 * (k - s)) = C 106 (38 + 25 * n + 2 + 2 * (k % s + s)) - C 106 (38 + 25 * n + 2 + 2 * (k % s))) := by
          refine ⟨fun q => q.2.2 k (by omega) hsk, fun q => ⟨hu.1, hu.2.1, fun m hm hm2 => ?_⟩⟩
          rcases Nat.lt_or_ge m k with z | z
          · exact hu.2.2 m z hm2
          · obtain rfl : m = k := by omega
            exact q
        have go : ∀ (b : Int32) (L6 : Option Value), bI (foldU (C 106) n len s (k + 1)) = b → V G l RX7 "canFold" cX7_canFold 7 (some .boolean) (rmd 1 0 0) E0 (Qm G (Rw G a (.int (bI (foldU (C 106) n len s len))) C) sz 0 0) sz 0 0 29 [some (.ref (a + 105)), some (.int (nI n)), some (.int (nI s)), some (.int (nI len)), some (.int b), some (.int (nI (k + 1))), L6] [] (B G a C) := fun b L6 hb => by
          rw [← hb]
          exact ih (k + 1) L6 (by omega) (by omega)
        refine V_icmp_ne dX7_canFold_79 (fun c79 => ?_) (fun c79 => ?_)
        · refine V_iconst (v := 0) dX7_canFold_108 (by decide) ?_
          refine V_istore dX7_canFold_109 (by decide) (by dsimp only [List.set] <;> rfl) ?_
          refine V_iinc dX7_canFold_111 rfl (ninc _) (by decide) (by dsimp only [List.set] <;> rfl) ?_
          refine V_goto dX7_canFold_114 ?_
          exact go 0 _ (bI_f (fun z => c79 (e.mp z).1))
        · refine V_aload_n dX7_canFold_82 rfl ?_
          refine V_iload_n dX7_canFold_83 rfl ?_
          refine V_iload dX7_canFold_84 rfl ?_
          refine V_callVw dX7_canFold_86 kX7_75 ykX7_numberOf (by decide) rfl rfl (tX7_numberOf (by omega) (by omega)) rfl (Nat.le_of_ble_eq_true rfl) ⟨by decide, by decide, by decide, by decide⟩ ?_
          refine V_aload_n dX7_canFold_89 rfl ?_
          refine V_iload_n dX7_canFold_90 rfl ?_
          refine V_iload dX7_canFold_91 rfl ?_
          refine V_iload_n dX7_canFold_93 rfl ?_
          refine V_isub dX7_canFold_94 ?_
          rw [show nI k - nI s = nI (k - s) from pk_sub hsk]
          refine V_callVw dX7_canFold_95 kX7_75 ykX7_numberOf (by decide) rfl rfl (tX7_numberOf (by omega) (by omega)) rfl (Nat.le_of_ble_eq_true rfl) ⟨by decide, by decide, by decide, by decide⟩ ?_
          refine V_isub dX7_canFold_98 ?_
          refine V_iload dX7_canFold_99 rfl ?_
          refine V_icmp_ne dX7_canFold_101 (fun c101 => ?_) (fun c101 => ?_)
          · refine V_iconst (v := 0) dX7_canFold_108 (by decide) ?_
            refine V_istore dX7_canFold_109 (by decide) (by dsimp only [List.set] <;> rfl) ?_
            refine V_iinc dX7_canFold_111 rfl (ninc _) (by decide) (by dsimp only [List.set] <;> rfl) ?_
            refine V_goto dX7_canFold_114 ?_
            exact go 0 _ (bI_f (fun z => c101 (e.mp z).2))
          · refine V_iconst (v := 1) dX7_canFold_104 (by decide) ?_
            refine V_goto dX7_canFold_105 ?_
            refine V_istore dX7_canFold_109 (by decide) (by dsimp only [List.set] <;> rfl) ?_
            refine V_iinc dX7_canFold_111 rfl (ninc _) (by decide) (by dsimp only [List.set] <;> rfl) ?_
            refine V_goto dX7_canFold_114 ?_
            exact go 1 _ (bI_t (e.mpr ⟨c79, c101⟩))
      · refine V_if_eq dX7_canFold_37 (fun _ => ?_) (fun z => absurd (bI_f hu) z)
        refine V_iload dX7_canFold_117 rfl ?_
        refine V_zret dX7_canFold_119 rfl (by first | rfl | exact bI_nar) rfl rfl ?_
        refine Rw_i ?_ rfl
        rw [bI_f hu, bI_f (fun q => hu ⟨q.1, q.2.1, fun m hm hm2 => q.2.2 m (by omega) hm2⟩)]
  have e0 : foldU (C 106) n len s s ↔ (len % s = 0 ∧ 2 * s ≤ len) := ⟨fun q => ⟨q.1, q.2.1⟩, fun q => ⟨q.1, q.2, fun m hm hm2 => absurd hm (by omega)⟩⟩
  have fin : ∀ (b : Int32), b = bI (foldU (C 106) n len s s) → V G l RX7 "canFold" cX7_canFold 7 (some .boolean) (rmd 1 0 0) E0 (Qm G (Rw G a (.int (bI (foldU (C 106) n len s len))) C) sz 0 0) sz 0 0 24 [some (.ref (a + 105)), some (.int (nI n)), some (.int (nI s)), some (.int (nI len)), none, none, none] [.int b] (B G a C) := by
    intro b hb
    subst hb
    refine V_istore dX7_canFold_24 (by decide) (by dsimp only [List.set] <;> rfl) ?_
    refine V_iload_n dX7_canFold_26 rfl ?_
    refine V_istore dX7_canFold_27 (by decide) (by dsimp only [List.set] <;> rfl) ?_
    rcases Nat.lt_or_ge len s with q | q
    · refine V_iload dX7_canFold_29 rfl ?_
      refine V_iload_n dX7_canFold_31 rfl ?_
      refine V_icmp_ge dX7_canFold_32 (fun _ => ?_) (fun z => absurd ((cle (by repeat (first | with_reducible rfl | with_reducible exact nlit | with_reducible apply nadd | with_reducible apply nmul | with_reducible apply nsub | with_reducible assumption | omega)) (by repeat (first | with_reducible rfl | with_reducible exact nlit | with_reducible apply nadd | with_reducible apply nmul | with_reducible apply nsub | with_reducible assumption | omega)) (by omega) (by omega)).mpr (by omega)) z)
      refine V_iload dX7_canFold_117 rfl ?_
      refine V_zret dX7_canFold_119 rfl (by first | rfl | exact bI_nar) rfl rfl ?_
      exact Rw_i (by rw [bI_f (fun z => absurd (e0.mp z).2 (by omega)), bI_f (fun z => absurd z.2.1 (by omega))]) rfl
    · exact key (len - s) s none (by omega) (by omega)
  by_cases h1 : len % s = 0
  · refine V_if_ne dX7_canFold_9 (fun z => absurd z (fun z => z (by rw [h1]; rfl))) (fun _ => ?_)
    refine V_iload_n dX7_canFold_12 rfl ?_
    refine V_iconst (v := 2) dX7_canFold_13 (by decide) ?_
    refine V_iload_n dX7_canFold_14 rfl ?_
    refine V_imul dX7_canFold_15 ?_
    by_cases h2 : 2 * s ≤ len
    · refine V_icmp_lt dX7_canFold_16 (fun z => absurd z (fun z => absurd ((clt (by repeat (first | with_reducible rfl | with_reducible exact nlit | with_reducible apply nadd | with_reducible apply nmul | with_reducible apply nsub | with_reducible assumption | omega)) (by repeat (first | with_reducible rfl | with_reducible exact nlit | with_reducible apply nadd | with_reducible apply nmul | with_reducible apply nsub | with_reducible assumption | omega)) (by omega) (by omega)).mp z) (by omega))) (fun _ => ?_)
      refine V_iconst (v := 1) dX7_canFold_19 (by decide) ?_
      refine V_goto dX7_canFold_20 ?_
      exact fin 1 (bI_t (e0.mpr ⟨h1, h2⟩)).symm
    · refine V_icmp_lt dX7_canFold_16 (fun _ => ?_) (fun z => absurd ((clt (by repeat (first | with_reducible rfl | with_reducible exact nlit | with_reducible apply nadd | with_reducible apply nmul | with_reducible apply nsub | with_reducible assumption | omega)) (by repeat (first | with_reducible rfl | with_reducible exact nlit | with_reducible apply nadd | with_reducible apply nmul | with_reducible apply nsub | with_reducible assumption | omega)) (by omega) (by omega)).mpr (by omega)) z)
      refine V_iconst (v := 0) dX7_canFold_23 (by decide) ?_
      exact fin 0 (bI_f (fun z => h2 (e0.mp z).2)).symm
  · refine V_if_ne dX7_canFold_9 (fun _ => ?_) (fun z => absurd z ((by intro z; exact h1 ((ceq rfl nlit (by have := Nat.mod_le len s; omega) (by omega)).mp z))))
    refine V_iconst (v := 0) dX7_canFold_23 (by decide) ?_
    exact fin 0 (bI_f (fun z => h1 (e0.mp z).1)).symm
set_option maxHeartbeats 4000000 in
theorem tX7_fold_o {tc : Nat} (x1 : Int32) (h31 : C 106 31 = nI tc) (htc : tc ≤ 6) (hx : ¬ isIx x1 tc) : Ct G l yX7_fold cX7_fold 5 (some .int) 2 0 0 sz [.ref (a + 105), .int x1] (B G a C) (Rw G a (.int (-1)) C) := by
  refine Ct.of (own := RX7) (mn := "fold") (L0 := [some (.ref (a + 105)), some (.int x1), none, none, none]) (by decide +kernel) rfl rfl rfl (Nat.le_of_ble_eq_true rfl) rfl ?_
  refine V_aload_n dX7_fold_0 rfl ?_
  refine V_iload_n dX7_fold_1 rfl ?_
  refine V_callVw dX7_fold_2 kX7_67 ykX7_isTry (by decide) rfl rfl (tX7_isTry _ h31 (by omega)) rfl (Nat.le_of_ble_eq_true rfl) ⟨by decide, by decide, by decide, by decide⟩ ?_
  refine V_if_ne dX7_fold_5 (fun z => absurd z (fun z => z (bI_f hx))) (fun _ => ?_)
  refine V_iconst (v := (-1)) dX7_fold_8 (by decide) ?_
  refine V_iret dX7_fold_9 rfl rfl rfl ?_
  exact Rw_i rfl rfl
def zFold (z : Nat → Int32) (lc n len s : Nat) : Nat → Int32 := stB (zNL z lc n s (nI (len / s))) (213 + 38 * lc) (fun k => z (38 + 25 * n + 2 + 2 * (k + s)) - z (38 + 25 * n + 2 + 2 * k)) s
set_option maxHeartbeats 4000000 in
theorem tX7_fold {st tc lc n len s : Nat} (hst : st ≤ 4) (h0 : C 105 0 = nI st) (h31 : C 106 31 = nI tc) (htc : tc ≤ 6) (h33 : C 106 33 = nI lc) (hlc : lc ≤ 6) (hn : n < tc) (hl : C 106 (38 + 25 * n) = nI len) (hlen : len ≤ 12) (hs1 : 1 ≤ s) (hs2 : s ≤ 13) (hs3 : s < 13 → foldU (C 106) n len s len) (hs4 : ∀ s', 1 ≤ s' → s' < s → ¬ foldU (C 106) n len s' len) : Ct G l yX7_fold cX7_fold 5 (some .int) 2 0 0 sz [.ref (a + 105), .int (nI n)] (B G a C) (Rw G a (.int (if s = 13 then -4 else if lc = 6 then -3 else nI lc)) (if s = 13 then C else if lc = 6 then C else mset (mSave C st) 106 (zFold (C 106) lc n len s))) := by
  refine Ct.of (own := RX7) (mn := "fold") (L0 := [some (.ref (a + 105)), some (.int (nI n)), none, none, none]) (by decide +kernel) rfl rfl rfl (Nat.le_of_ble_eq_true rfl) rfl ?_
  refine V_aload_n dX7_fold_0 rfl ?_
  refine V_iload_n dX7_fold_1 rfl ?_
  refine V_callVw dX7_fold_2 kX7_67 ykX7_isTry (by decide) rfl rfl (tX7_isTry _ h31 (by omega)) rfl (Nat.le_of_ble_eq_true rfl) ⟨by decide, by decide, by decide, by decide⟩ ?_
  refine V_if_ne dX7_fold_5 (fun _ => ?_) (fun z => absurd z ((bI_ne0.mpr (isIx_nI hn (by omega)))))
  have tail : V G l RX7 "fold" cX7_fold 5 (some .int) (rmd 2 0 0) E0 (Qm G (Rw G a (.int (if s = 13 then -4 else if lc = 6 then -3 else nI lc)) (if s = 13 then C else if lc = 6 then C else mset (mSave C st) 106 (zFold (C 106) lc n len s))) sz 0 0) sz 0 0 33 [some (.ref (a + 105)), some (.int (nI n)), some (.int (nI s)), none, none] [] (B G a C) := by
    refine V_iload_n dX7_fold_33 rfl ?_
    refine V_bipush (v := 12) dX7_fold_34 (by decide) ?_
    by_cases h13 : s = 13
    · refine V_icmp_le dX7_fold_36 (fun z => absurd z (fun z => absurd ((cle (by repeat (first | with_reducible rfl | with_reducible exact nlit | with_reducible apply nadd | with_reducible apply nmul | with_reducible apply nsub | with_reducible assumption | omega)) (by repeat (first | with_reducible rfl | with_reducible exact nlit | with_reducible apply nadd | with_reducible apply nmul | with_reducible apply nsub | with_reducible assumption | omega)) (by omega) (by omega)).mp z) (by omega))) (fun _ => ?_)
      refine V_bipush (v := (-4)) dX7_fold_39 (by decide) ?_
      refine V_iret dX7_fold_41 rfl rfl rfl ?_
      exact Rw_i (by rw [if_pos h13]) (by rw [if_pos h13])
    have hf := hs3 (by omega)
    have hf2 := hf.2.1
    refine V_icmp_le dX7_fold_36 (fun _ => ?_) (fun z => absurd ((cle (by repeat (first | with_reducible rfl | with_reducible exact nlit | with_reducible apply nadd | with_reducible apply nmul | with_reducible apply nsub | with_reducible assumption | omega)) (by repeat (first | with_reducible rfl | with_reducible exact nlit | with_reducible apply nadd | with_reducible apply nmul | with_reducible apply nsub | with_reducible assumption | omega)) (by omega) (by omega)).mpr (by omega)) z)
    refine V_aload_n dX7_fold_42 rfl ?_
    refine V_bget dX7_fold_43 fX7_7 (by decide) rfl (by (try simp only [mset_s, mset_n, pk_us, pk_un, ne_eq, Nat.reduceEqDiff, Nat.reduceAdd, not_false_eq_true, not_true_eq_false]) <;> rfl) ?_
    refine V_bipush (v := 33) dX7_fold_46 (by decide) ?_
    refine V_biald dX7_fold_48 (by decide) rfl (by repeat (first | with_reducible rfl | with_reducible exact nlit | with_reducible apply nadd | with_reducible apply nmul | with_reducible apply nsub | with_reducible assumption | omega)) (by omega) (by first | decide | omega) (by (try simp only [mset_s, mset_n, pk_us, pk_un, ne_eq, Nat.reduceEqDiff, Nat.reduceAdd, not_false_eq_true, not_true_eq_false]) <;> rfl) ?_
    rw [h33]
    refine V_bipush (v := 6) dX7_fold_49 (by decide) ?_
    by_cases h6 : lc = 6
    · refine V_icmp_ne dX7_fold_51 (fun z => absurd z (fun z => z ((ceq (by repeat (first | with_reducible rfl | with_reducible exact nlit | with_reducible apply nadd | with_reducible apply nmul | with_reducible apply nsub | with_reducible assumption | omega)) (by repeat (first | with_reducible rfl | with_reducible exact nlit | with_reducible apply nadd | with_reducible apply nmul | with_reducible apply nsub | with_reducible assumption | omega)) (by omega) (by omega)).mpr (by omega)))) (fun _ => ?_)
      refine V_bipush (v := (-3)) dX7_fold_54 (by decide) ?_
      refine V_iret dX7_fold_56 rfl rfl rfl ?_
      exact Rw_i (by rw [if_neg h13, if_pos h6]) (by rw [if_neg h13, if_pos h6])
    refine V_icmp_ne dX7_fold_51 (fun _ => ?_) (fun z => absurd z ((fun z => absurd ((ceq (by repeat (first | with_reducible rfl | with_reducible exact nlit | with_reducible apply nadd | with_reducible apply nmul | with_reducible apply nsub | with_reducible assumption | omega)) (by repeat (first | with_reducible rfl | with_reducible exact nlit | with_reducible apply nadd | with_reducible apply nmul | with_reducible apply nsub | with_reducible assumption | omega)) (by omega) (by omega)).mp z) (by omega))))
    refine V_aload_n dX7_fold_57 rfl ?_
    refine V_callVu dX7_fold_58 kX7_53 ykX7_save (by decide) rfl rfl (tX7_save hst h0) rfl (Nat.le_of_ble_eq_true rfl) ⟨by decide, by decide, by decide, by decide⟩ ?_
    refine V_aload_n dX7_fold_61 rfl ?_
    refine V_iload_n dX7_fold_62 rfl ?_
    refine V_iload_n dX7_fold_63 rfl ?_
    refine V_aload_n dX7_fold_64 rfl ?_
    refine V_iload_n dX7_fold_65 rfl ?_
    refine V_callVw dX7_fold_66 kX7_60 ykX7_sizeOf (by decide) rfl rfl (tX7_sizeOf (by omega)) rfl (Nat.le_of_ble_eq_true rfl) ⟨by decide, by decide, by decide, by decide⟩ ?_
    rw [mSave_z, hl]
    refine V_iload_n dX7_fold_69 rfl ?_
    refine V_idiv dX7_fold_70 (by intro z; exact absurd ((ceq rfl nlit (by omega) (by omega)).mp z) (by omega)) ?_
    rw [pk_div (by omega) (by omega) (by omega)]
    refine V_callVw dX7_fold_71 kX7_81 ykX7_newLoop (by decide) rfl rfl (tX7_newLoop _ (by rw [mSave_z]; exact h33) (by omega) (by omega) (by omega)) rfl (Nat.le_of_ble_eq_true rfl) ⟨by decide, by decide, by decide, by decide⟩ ?_
    rw [mSave_z]
    have key : ∀ (m k : Nat), k + m = s → V G l RX7 "fold" cX7_fold 5 (some .int) (rmd 2 0 0) E0 (Qm G (Rw G a (.int (if s = 13 then -4 else if lc = 6 then -3 else nI lc)) (if s = 13 then C else if lc = 6 then C else mset (mSave C st) 106 (zFold (C 106) lc n len s))) sz 0 0) sz 0 0 78 [some (.ref (a + 105)), some (.int (nI n)), some (.int (nI s)), some (.int (nI lc)), some (.int (nI k))] [] (B G a (mset (mSave C st) 106 (stB (zNL (C 106) lc n s (nI (len / s))) (213 + 38 * lc) (fun k => C 106 (38 + 25 * n + 2 + 2 * (k + s)) - C 106 (38 + 25 * n + 2 + 2 * k)) k))) := by
      intro m
      induction m with
      | zero =>
        intro k hk
        obtain rfl : k = s := by omega
        refine V_iload dX7_fold_78 rfl ?_
        refine V_iload_n dX7_fold_80 rfl ?_
        refine V_icmp_ge dX7_fold_81 (fun _ => ?_) (fun z => absurd ((cle (by repeat (first | with_reducible rfl | with_reducible exact nlit | with_reducible apply nadd | with_reducible apply nmul | with_reducible apply nsub | with_reducible assumption | omega)) (by repeat (first | with_reducible rfl | with_reducible exact nlit | with_reducible apply nadd | with_reducible apply nmul | with_reducible apply nsub | with_reducible assumption | omega)) (by omega) (by omega)).mpr (by omega)) z)
        refine V_iload_n dX7_fold_114 rfl ?_
        refine V_iret dX7_fold_115 rfl rfl rfl ?_
        exact Rw_i (by rw [if_neg h13, if_neg h6]) (by rw [if_neg h13, if_neg h6]; rfl)
      | succ m ih =>
        intro k hk
        refine V_iload dX7_fold_78 rfl ?_
        refine V_iload_n dX7_fold_80 rfl ?_
        refine V_icmp_ge dX7_fold_81 (fun z => absurd z (fun z => absurd ((cle (by repeat (first | with_reducible rfl | with_reducible exact nlit | with_reducible apply nadd | with_reducible apply nmul | with_reducible apply nsub | with_reducible assumption | omega)) (by repeat (first | with_reducible rfl | with_reducible exact nlit | with_reducible apply nadd | with_reducible apply nmul | with_reducible apply nsub | with_reducible assumption | omega)) (by omega) (by omega)).mp z) (by omega))) (fun _ => ?_)
        refine V_aload_n dX7_fold_84 rfl ?_
        refine V_iload_n dX7_fold_85 rfl ?_
        refine V_iload dX7_fold_86 rfl ?_
        refine V_aload_n dX7_fold_88 rfl ?_
        refine V_iload_n dX7_fold_89 rfl ?_
        refine V_iload dX7_fold_90 rfl ?_
        refine V_iload_n dX7_fold_92 rfl ?_
        refine V_iadd dX7_fold_93 ?_
        rw [show nI k + nI s = nI (k + s) from nI_add _ _]
        refine V_callVw dX7_fold_94 kX7_75 ykX7_numberOf (by decide) rfl rfl (tX7_numberOf (by omega) (by omega)) rfl (Nat.le_of_ble_eq_true rfl) ⟨by decide, by decide, by decide, by decide⟩ ?_
        rw [mset_s, stB_o (by omega), zNL_lo (by omega) (by omega)]
        refine V_aload_n dX7_fold_97 rfl ?_
        refine V_iload_n dX7_fold_98 rfl ?_
        refine V_iload dX7_fold_99 rfl ?_
        refine V_callVw dX7_fold_101 kX7_75 ykX7_numberOf (by decide) rfl rfl (tX7_numberOf (by omega) (by omega)) rfl (Nat.le_of_ble_eq_true rfl) ⟨by decide, by decide, by decide, by decide⟩ ?_
        rw [mset_s, stB_o (by omega), zNL_lo (by omega) (by omega)]
        refine V_isub dX7_fold_104 ?_
        refine V_callVu dX7_fold_105 kX7_85 ykX7_stride (by decide) rfl rfl (tX7_stride _ (by omega) (by omega)) rfl (Nat.le_of_ble_eq_true rfl) ⟨by decide, by decide, by decide, by decide⟩ ?_
        refine V_iinc dX7_fold_108 rfl (ninc _) (by decide) (by dsimp only [List.set] <;> rfl) ?_
        refine V_goto dX7_fold_111 ?_
        simp only [mset_s, mset_ss]
        exact ih (k + 1) (by omega)
    refine V_istore_n dX7_fold_74 (by decide) (by dsimp only [List.set] <;> rfl) ?_
    refine V_iconst (v := 0) dX7_fold_75 (by decide) ?_
    refine V_istore dX7_fold_76 (by decide) (by dsimp only [List.set] <;> rfl) ?_
    exact key s 0 (by omega)
  have key0 : ∀ (m k : Nat), 1 ≤ k → k + m = s → V G l RX7 "fold" cX7_fold 5 (some .int) (rmd 2 0 0) E0 (Qm G (Rw G a (.int (if s = 13 then -4 else if lc = 6 then -3 else nI lc)) (if s = 13 then C else if lc = 6 then C else mset (mSave C st) 106 (zFold (C 106) lc n len s))) sz 0 0) sz 0 0 12 [some (.ref (a + 105)), some (.int (nI n)), some (.int (nI k)), none, none] [] (B G a C) := by
    intro m
    induction m with
    | zero =>
      intro k hk1 hk
      obtain rfl : k = s := by omega
      refine V_iload_n dX7_fold_12 rfl ?_
      refine V_bipush (v := 12) dX7_fold_13 (by decide) ?_
      by_cases h13 : k = 13
      · refine V_icmp_gt dX7_fold_15 (fun _ => ?_) (fun z => absurd ((clt (by repeat (first | with_reducible rfl | with_reducible exact nlit | with_reducible apply nadd | with_reducible apply nmul | with_reducible apply nsub | with_reducible assumption | omega)) (by repeat (first | with_reducible rfl | with_reducible exact nlit | with_reducible apply nadd | with_reducible apply nmul | with_reducible apply nsub | with_reducible assumption | omega)) (by omega) (by omega)).mpr (by omega)) z)
        exact tail
      refine V_icmp_gt dX7_fold_15 (fun z => absurd z (fun z => absurd ((clt (by repeat (first | with_reducible rfl | with_reducible exact nlit | with_reducible apply nadd | with_reducible apply nmul | with_reducible apply nsub | with_reducible assumption | omega)) (by repeat (first | with_reducible rfl | with_reducible exact nlit | with_reducible apply nadd | with_reducible apply nmul | with_reducible apply nsub | with_reducible assumption | omega)) (by omega) (by omega)).mp z) (by omega))) (fun _ => ?_)
      refine V_aload_n dX7_fold_18 rfl ?_
      refine V_iload_n dX7_fold_19 rfl ?_
      refine V_iload_n dX7_fold_20 rfl ?_
      refine V_callVw dX7_fold_21 kX7_89 ykX7_canFold (by decide) rfl rfl (tX7_canFold (by omega) hl hlen (by omega) (by omega)) rfl (Nat.le_of_ble_eq_true rfl) ⟨by decide, by decide, by decide, by decide⟩ ?_
      refine V_if_ne dX7_fold_24 (fun _ => ?_) (fun z => absurd z ((bI_ne0.mpr (hs3 (by omega)))))
      exact tail
    | succ m ih =>
      intro k hk1 hk
      refine V_iload_n dX7_fold_12 rfl ?_
      refine V_bipush (v := 12) dX7_fold_13 (by decide) ?_
      refine V_icmp_gt dX7_fold_15 (fun z => absurd z (fun z => absurd ((clt (by repeat (first | with_reducible rfl | with_reducible exact nlit | with_reducible apply nadd | with_reducible apply nmul | with_reducible apply nsub | with_reducible assumption | omega)) (by repeat (first | with_reducible rfl | with_reducible exact nlit | with_reducible apply nadd | with_reducible apply nmul | with_reducible apply nsub | with_reducible assumption | omega)) (by omega) (by omega)).mp z) (by omega))) (fun _ => ?_)
      refine V_aload_n dX7_fold_18 rfl ?_
      refine V_iload_n dX7_fold_19 rfl ?_
      refine V_iload_n dX7_fold_20 rfl ?_
      refine V_callVw dX7_fold_21 kX7_89 ykX7_canFold (by decide) rfl rfl (tX7_canFold (by omega) hl hlen (by omega) (by omega)) rfl (Nat.le_of_ble_eq_true rfl) ⟨by decide, by decide, by decide, by decide⟩ ?_
      refine V_if_ne dX7_fold_24 (fun z => absurd z (fun z => z (bI_f (hs4 k hk1 (by omega))))) (fun _ => ?_)
      refine V_iinc dX7_fold_27 rfl (ninc _) (by decide) (by dsimp only [List.set] <;> rfl) ?_
      refine V_goto dX7_fold_30 ?_
      exact ih (k + 1) (by omega) (by omega)
  refine V_iconst (v := 1) dX7_fold_10 (by decide) ?_
  refine V_istore_n dX7_fold_11 (by decide) (by dsimp only [List.set] <;> rfl) ?_
  exact key0 (s - 1) 1 (by omega) (by omega)
set_option maxHeartbeats 4000000 in
theorem tX7_sum : Ct G l yX7_sum cX7_sum 3 (some .int) 0 0 0 sz [.ref (a + 105)] (B G a C) (Rw G a (.int (sumF (C 106) 30)) C) := by
  refine Ct.of (own := RX7) (mn := "sum") (L0 := [some (.ref (a + 105)), none, none]) (by decide +kernel) rfl rfl rfl (Nat.le_of_ble_eq_true rfl) rfl ?_
  have key : ∀ (m k : Nat), k + m = 30 → V G l RX7 "sum" cX7_sum 3 (some .int) (rmd 0 0 0) E0 (Qm G (Rw G a (.int (sumF (C 106) 30)) C) sz 0 0) sz 0 0 4 [some (.ref (a + 105)), some (.int (sumF (C 106) k)), some (.int (nI k))] [] (B G a C) := by
    intro m
    induction m with
    | zero =>
      intro k hk
      obtain rfl : k = 30 := by omega
      refine V_iload_n dX7_sum_4 rfl ?_
      refine V_bipush (v := 30) dX7_sum_5 (by decide) ?_
      refine V_icmp_ge dX7_sum_7 (fun _ => ?_) (fun z => absurd ((cle (by repeat (first | with_reducible rfl | with_reducible exact nlit | with_reducible apply nadd | with_reducible apply nmul | with_reducible apply nsub | with_reducible assumption | omega)) (by repeat (first | with_reducible rfl | with_reducible exact nlit | with_reducible apply nadd | with_reducible apply nmul | with_reducible apply nsub | with_reducible assumption | omega)) (by omega) (by omega)).mpr (by omega)) z)
      refine V_iload_n dX7_sum_25 rfl ?_
      refine V_iret dX7_sum_26 rfl rfl rfl ?_
      exact Rw_i rfl rfl
    | succ m ih =>
      intro k hk
      refine V_iload_n dX7_sum_4 rfl ?_
      refine V_bipush (v := 30) dX7_sum_5 (by decide) ?_
      refine V_icmp_ge dX7_sum_7 (fun z => absurd z (fun z => absurd ((cle (by repeat (first | with_reducible rfl | with_reducible exact nlit | with_reducible apply nadd | with_reducible apply nmul | with_reducible apply nsub | with_reducible assumption | omega)) (by repeat (first | with_reducible rfl | with_reducible exact nlit | with_reducible apply nadd | with_reducible apply nmul | with_reducible apply nsub | with_reducible assumption | omega)) (by omega) (by omega)).mp z) (by omega))) (fun _ => ?_)
      refine V_iload_n dX7_sum_10 rfl ?_
      refine V_aload_n dX7_sum_11 rfl ?_
      refine V_bget dX7_sum_12 fX7_7 (by decide) rfl (by (try simp only [mset_s, mset_n, pk_us, pk_un, ne_eq, Nat.reduceEqDiff, Nat.reduceAdd, not_false_eq_true, not_true_eq_false]) <;> rfl) ?_
      refine V_iload_n dX7_sum_15 rfl ?_
      refine V_biald dX7_sum_16 (by decide) rfl (by repeat (first | with_reducible rfl | with_reducible exact nlit | with_reducible apply nadd | with_reducible apply nmul | with_reducible apply nsub | with_reducible assumption | omega)) (by omega) (by first | decide | omega) (by (try simp only [mset_s, mset_n, pk_us, pk_un, ne_eq, Nat.reduceEqDiff, Nat.reduceAdd, not_false_eq_true, not_true_eq_false]) <;> rfl) ?_
      refine V_iadd dX7_sum_17 ?_
      refine V_istore_n dX7_sum_18 (by decide) (by dsimp only [List.set] <;> rfl) ?_
      refine V_iinc dX7_sum_19 rfl (ninc _) (by decide) (by dsimp only [List.set] <;> rfl) ?_
      refine V_goto dX7_sum_22 ?_
      exact ih (k + 1) (by omega)
  refine V_iconst (v := 0) dX7_sum_0 (by decide) ?_
  refine V_istore_n dX7_sum_1 (by decide) (by dsimp only [List.set] <;> rfl) ?_
  refine V_iconst (v := 0) dX7_sum_2 (by decide) ?_
  refine V_istore_n dX7_sum_3 (by decide) (by dsimp only [List.set] <;> rfl) ?_
  exact key 30 0 rfl
set_option maxHeartbeats 4000000 in
theorem tX7_rowsOfVerbs {tc : Nat} {tl : Nat → Nat} (h31 : C 106 31 = nI tc) (htc : tc ≤ 6) (htl : tlM (C 106) tl tc) : Ct G l yX7_rowsOfVerbs cX7_rowsOfVerbs 5 (some .int) 2 0 0 sz [.ref (a + 105)] (B G a C) (Rw G a (.int (rowsN (lkM (C 106) tl) tc)) C) := by
  refine Ct.of (own := RX7) (mn := "rowsOfVerbs") (L0 := [some (.ref (a + 105)), none, none, none, none]) (by decide +kernel) rfl rfl rfl (Nat.le_of_ble_eq_true rfl) rfl ?_
  have key : ∀ (m i : Nat) (L3 L4 : Option Value), i + m = tc → V G l RX7 "rowsOfVerbs" cX7_rowsOfVerbs 5 (some .int) (rmd 2 0 0) E0 (Qm G (Rw G a (.int (rowsN (lkM (C 106) tl) tc)) C) sz 0 0) sz 0 0 4 [some (.ref (a + 105)), some (.int (rowsN (lkM (C 106) tl) i)), some (.int (nI i)), L3, L4] [] (B G a C) := by
    intro m
    induction m with
    | zero =>
      intro i L3 L4 hk
      obtain rfl : i = tc := by omega
      refine V_iload_n dX7_rowsOfVerbs_4 rfl ?_
      refine V_aload_n dX7_rowsOfVerbs_5 rfl ?_
      refine V_bget dX7_rowsOfVerbs_6 fX7_7 (by decide) rfl (by (try simp only [mset_s, mset_n, pk_us, pk_un, ne_eq, Nat.reduceEqDiff, Nat.reduceAdd, not_false_eq_true, not_true_eq_false]) <;> rfl) ?_
      refine V_bipush (v := 31) dX7_rowsOfVerbs_9 (by decide) ?_
      refine V_biald dX7_rowsOfVerbs_11 (by decide) rfl (by repeat (first | with_reducible rfl | with_reducible exact nlit | with_reducible apply nadd | with_reducible apply nmul | with_reducible apply nsub | with_reducible assumption | omega)) (by omega) (by first | decide | omega) (by (try simp only [mset_s, mset_n, pk_us, pk_un, ne_eq, Nat.reduceEqDiff, Nat.reduceAdd, not_false_eq_true, not_true_eq_false]) <;> rfl) ?_
      rw [h31]
      refine V_icmp_ge dX7_rowsOfVerbs_12 (fun _ => ?_) (fun z => absurd ((cle (by repeat (first | with_reducible rfl | with_reducible exact nlit | with_reducible apply nadd | with_reducible apply nmul | with_reducible apply nsub | with_reducible assumption | omega)) (by repeat (first | with_reducible rfl | with_reducible exact nlit | with_reducible apply nadd | with_reducible apply nmul | with_reducible apply nsub | with_reducible assumption | omega)) (by omega) (by omega)).mpr (by omega)) z)
      refine V_iload_n dX7_rowsOfVerbs_70 rfl ?_
      refine V_iret dX7_rowsOfVerbs_71 rfl rfl rfl ?_
      exact Rw_i rfl rfl
    | succ m ih =>
      intro i L3 L4 hk
      refine V_iload_n dX7_rowsOfVerbs_4 rfl ?_
      refine V_aload_n dX7_rowsOfVerbs_5 rfl ?_
      refine V_bget dX7_rowsOfVerbs_6 fX7_7 (by decide) rfl (by (try simp only [mset_s, mset_n, pk_us, pk_un, ne_eq, Nat.reduceEqDiff, Nat.reduceAdd, not_false_eq_true, not_true_eq_false]) <;> rfl) ?_
      refine V_bipush (v := 31) dX7_rowsOfVerbs_9 (by decide) ?_
      refine V_biald dX7_rowsOfVerbs_11 (by decide) rfl (by repeat (first | with_reducible rfl | with_reducible exact nlit | with_reducible apply nadd | with_reducible apply nmul | with_reducible apply nsub | with_reducible assumption | omega)) (by omega) (by first | decide | omega) (by (try simp only [mset_s, mset_n, pk_us, pk_un, ne_eq, Nat.reduceEqDiff, Nat.reduceAdd, not_false_eq_true, not_true_eq_false]) <;> rfl) ?_
      rw [h31]
      refine V_icmp_ge dX7_rowsOfVerbs_12 (fun z => absurd z (fun z => absurd ((cle (by repeat (first | with_reducible rfl | with_reducible exact nlit | with_reducible apply nadd | with_reducible apply nmul | with_reducible apply nsub | with_reducible assumption | omega)) (by repeat (first | with_reducible rfl | with_reducible exact nlit | with_reducible apply nadd | with_reducible apply nmul | with_reducible apply nsub | with_reducible assumption | omega)) (by omega) (by omega)).mp z) (by omega))) (fun _ => ?_)
      have key2 : ∀ (n j : Nat), j + n = i → V G l RX7 "rowsOfVerbs" cX7_rowsOfVerbs 5 (some .int) (rmd 2 0 0) E0 (Qm G (Rw G a (.int (rowsN (lkM (C 106) tl) tc)) C) sz 0 0) sz 0 0 20 [some (.ref (a + 105)), some (.int (rowsN (lkM (C 106) tl) i)), some (.int (nI i)), some (.int (bI (∀ q, q < j → lkM (C 106) tl i q = false))), some (.int (nI j))] [] (B G a C) := by
        intro n
        induction n with
        | zero =>
          intro j hj
          obtain rfl : j = i := by omega
          refine V_iload dX7_rowsOfVerbs_20 rfl ?_
          refine V_iload_n dX7_rowsOfVerbs_22 rfl ?_
          refine V_icmp_ge dX7_rowsOfVerbs_23 (fun _ => ?_) (fun z => absurd ((cle (by repeat (first | with_reducible rfl | with_reducible exact nlit | with_reducible apply nadd | with_reducible apply nmul | with_reducible apply nsub | with_reducible assumption | omega)) (by repeat (first | with_reducible rfl | with_reducible exact nlit | with_reducible apply nadd | with_reducible apply nmul | with_reducible apply nsub | with_reducible assumption | omega)) (by omega) (by omega)).mpr (by omega)) z)
          refine V_iload_n dX7_rowsOfVerbs_52 rfl ?_
          refine V_iload_n dX7_rowsOfVerbs_53 rfl ?_
          have go := ih (j + 1) (some (.int (bI (∀ q, q < j → lkM (C 106) tl j q = false)))) (some (.int (nI j))) (by omega)
          by_cases hb : ∀ q, q < j → lkM (C 106) tl j q = false
          · refine V_if_eq dX7_rowsOfVerbs_54 (fun z => absurd z (bI_ne0.mpr hb)) (fun _ => ?_)
            refine V_iconst (v := 1) dX7_rowsOfVerbs_57 (by decide) ?_
            refine V_goto dX7_rowsOfVerbs_58 ?_
            refine V_iadd dX7_rowsOfVerbs_62 ?_
            refine V_istore_n dX7_rowsOfVerbs_63 (by decide) (by dsimp only [List.set] <;> rfl) ?_
            refine V_iinc dX7_rowsOfVerbs_64 rfl (ninc _) (by decide) (by dsimp only [List.set] <;> rfl) ?_
            refine V_goto dX7_rowsOfVerbs_67 ?_
            rw [show rowsN (lkM (C 106) tl) (j + 1) = rowsN (lkM (C 106) tl) j + 1 from by rw [rowsN, bI_t hb]] at go
            exact go
          · refine V_if_eq dX7_rowsOfVerbs_54 (fun _ => ?_) (fun z => absurd (bI_f hb) z)
            refine V_iconst (v := 0) dX7_rowsOfVerbs_61 (by decide) ?_
            refine V_iadd dX7_rowsOfVerbs_62 ?_
            refine V_istore_n dX7_rowsOfVerbs_63 (by decide) (by dsimp only [List.set] <;> rfl) ?_
            refine V_iinc dX7_rowsOfVerbs_64 rfl (ninc _) (by decide) (by dsimp only [List.set] <;> rfl) ?_
            refine V_goto dX7_rowsOfVerbs_67 ?_
            rw [show rowsN (lkM (C 106) tl) (j + 1) = rowsN (lkM (C 106) tl) j + 0 from by rw [rowsN, bI_f hb]] at go
            exact go
        | succ n ih2 =>
          intro j hj
          refine V_iload dX7_rowsOfVerbs_20 rfl ?_
          refine V_iload_n dX7_rowsOfVerbs_22 rfl ?_
          refine V_icmp_ge dX7_rowsOfVerbs_23 (fun z => absurd z (fun z => absurd ((cle (by repeat (first | with_reducible rfl | with_reducible exact nlit | with_reducible apply nadd | with_reducible apply nmul | with_reducible apply nsub | with_reducible assumption | omega)) (by repeat (first | with_reducible rfl | with_reducible exact nlit | with_reducible apply nadd | with_reducible apply nmul | with_reducible apply nsub | with_reducible assumption | omega)) (by omega) (by omega)).mp z) (by omega))) (fun _ => ?_)
          refine V_iload_n dX7_rowsOfVerbs_26 rfl ?_
          have go := ih2 (j + 1) (by omega)
          by_cases hb : ∀ q, q < j → lkM (C 106) tl i q = false
          · refine V_if_eq dX7_rowsOfVerbs_27 (fun z => absurd z (bI_ne0.mpr hb)) (fun _ => ?_)
            refine V_aload_n dX7_rowsOfVerbs_30 rfl ?_
            refine V_iload_n dX7_rowsOfVerbs_31 rfl ?_
            refine V_iload dX7_rowsOfVerbs_32 rfl ?_
            refine V_callVw dX7_rowsOfVerbs_34 kX7_78 ykX7_areLike (by decide) rfl rfl (tX7_areLike (by omega) (by omega) (htl i (by omega)).1 (htl j (by omega)).1 (htl i (by omega)).2 (htl j (by omega)).2) rfl (Nat.le_of_ble_eq_true rfl) ⟨by decide, by decide, by decide, by decide⟩ ?_
            by_cases hu : likeU (C 106) i j (tl i) (tl j) (tl i)
            · refine V_if_ne dX7_rowsOfVerbs_37 (fun _ => ?_) (fun z => absurd z ((bI_ne0.mpr hu)))
              refine V_iconst (v := 0) dX7_rowsOfVerbs_44 (by decide) ?_
              refine V_istore_n dX7_rowsOfVerbs_45 (by decide) (by dsimp only [List.set] <;> rfl) ?_
              refine V_iinc dX7_rowsOfVerbs_46 rfl (ninc _) (by decide) (by dsimp only [List.set] <;> rfl) ?_
              refine V_goto dX7_rowsOfVerbs_49 ?_
              rw [bI_f (fun z => by have h1 := z j (by omega); rw [show lkM (C 106) tl i j = true from decide_eq_true hu] at h1; cases h1)] at go
              exact go
            · refine V_if_ne dX7_rowsOfVerbs_37 (fun z => absurd z (fun z => z (bI_f hu))) (fun _ => ?_)
              refine V_iconst (v := 1) dX7_rowsOfVerbs_40 (by decide) ?_
              refine V_goto dX7_rowsOfVerbs_41 ?_
              refine V_istore_n dX7_rowsOfVerbs_45 (by decide) (by dsimp only [List.set] <;> rfl) ?_
              refine V_iinc dX7_rowsOfVerbs_46 rfl (ninc _) (by decide) (by dsimp only [List.set] <;> rfl) ?_
              refine V_goto dX7_rowsOfVerbs_49 ?_
              rw [bI_t (fun q hq => by
                rcases Nat.lt_or_ge q j with z | z
                · exact hb q z
                · obtain rfl : q = j := by omega
                  exact decide_eq_false hu)] at go
              exact go
          · refine V_if_eq dX7_rowsOfVerbs_27 (fun _ => ?_) (fun z => absurd (bI_f hb) z)
            refine V_iconst (v := 0) dX7_rowsOfVerbs_44 (by decide) ?_
            refine V_istore_n dX7_rowsOfVerbs_45 (by decide) (by dsimp only [List.set] <;> rfl) ?_
            refine V_iinc dX7_rowsOfVerbs_46 rfl (ninc _) (by decide) (by dsimp only [List.set] <;> rfl) ?_
            refine V_goto dX7_rowsOfVerbs_49 ?_
            rw [bI_f (fun z => hb (fun q hq => z q (by omega)))] at go
            exact go
      refine V_iconst (v := 1) dX7_rowsOfVerbs_15 (by decide) ?_
      refine V_istore_n dX7_rowsOfVerbs_16 (by decide) (by dsimp only [List.set] <;> rfl) ?_
      refine V_iconst (v := 0) dX7_rowsOfVerbs_17 (by decide) ?_
      refine V_istore dX7_rowsOfVerbs_18 (by decide) (by dsimp only [List.set] <;> rfl) ?_
      have k0 := key2 i 0 (by omega)
      rw [bI_t (fun q hq => absurd hq (by omega))] at k0
      exact k0
  refine V_iconst (v := 0) dX7_rowsOfVerbs_0 (by decide) ?_
  refine V_istore_n dX7_rowsOfVerbs_1 (by decide) (by dsimp only [List.set] <;> rfl) ?_
  refine V_iconst (v := 0) dX7_rowsOfVerbs_2 (by decide) ?_
  refine V_istore_n dX7_rowsOfVerbs_3 (by decide) (by dsimp only [List.set] <;> rfl) ?_
  exact key tc 0 none none (by omega)
set_option maxHeartbeats 4000000 in
theorem tX7_likeNumbers {tc i j : Nat} {tl : Nat → Nat} (htc : tc ≤ 6) (htl : tlM (C 106) tl tc) (hi : i < tc) (hj : j < tc) : Ct G l yX7_likeNumbers cX7_likeNumbers 5 (some .int) 1 0 0 sz [.ref (a + 105), .int (nI i), .int (nI j)] (B G a C) (Rw G a (.int (cnM (C 106) tl i j)) C) := by
  have hl := (htl i hi).1
  have hl12 := (htl i hi).2
  refine Ct.of (own := RX7) (mn := "likeNumbers") (L0 := [some (.ref (a + 105)), some (.int (nI i)), some (.int (nI j)), none, none]) (by decide +kernel) rfl rfl rfl (Nat.le_of_ble_eq_true rfl) rfl ?_
  have key : ∀ (m k : Nat), k + m = tl i → V G l RX7 "likeNumbers" cX7_likeNumbers 5 (some .int) (rmd 1 0 0) E0 (Qm G (Rw G a (.int (cnM (C 106) tl i j)) C) sz 0 0) sz 0 0 5 [some (.ref (a + 105)), some (.int (nI i)), some (.int (nI j)), some (.int (cntEq (fun k => C 106 (38 + 25 * i + 2 + 2 * k)) (fun k => C 106 (38 + 25 * j + 2 + 2 * k)) k)), some (.int (nI k))] [] (B G a C) := by
    intro m
    induction m with
    | zero =>
      intro k hk
      obtain rfl : k = tl i := by omega
      refine V_iload dX7_likeNumbers_5 rfl ?_
      refine V_aload_n dX7_likeNumbers_7 rfl ?_
      refine V_iload_n dX7_likeNumbers_8 rfl ?_
      refine V_callVw dX7_likeNumbers_9 kX7_60 ykX7_sizeOf (by decide) rfl rfl (tX7_sizeOf (by omega)) rfl (Nat.le_of_ble_eq_true rfl) ⟨by decide, by decide, by decide, by decide⟩ ?_
      rw [hl]
      refine V_icmp_ge dX7_likeNumbers_12 (fun _ => ?_) (fun z => absurd ((cle (by repeat (first | with_reducible rfl | with_reducible exact nlit | with_reducible apply nadd | with_reducible apply nmul | with_reducible apply nsub | with_reducible assumption | omega)) (by repeat (first | with_reducible rfl | with_reducible exact nlit | with_reducible apply nadd | with_reducible apply nmul | with_reducible apply nsub | with_reducible assumption | omega)) (by omega) (by omega)).mpr (by omega)) z)
      refine V_iload_n dX7_likeNumbers_46 rfl ?_
      refine V_iret dX7_likeNumbers_47 rfl rfl rfl ?_
      exact Rw_i rfl rfl
    | succ m ih =>
      intro k hk
      refine V_iload dX7_likeNumbers_5 rfl ?_
      refine V_aload_n dX7_likeNumbers_7 rfl ?_
      refine V_iload_n dX7_likeNumbers_8 rfl ?_
      refine V_callVw dX7_likeNumbers_9 kX7_60 ykX7_sizeOf (by decide) rfl rfl (tX7_sizeOf (by omega)) rfl (Nat.le_of_ble_eq_true rfl) ⟨by decide, by decide, by decide, by decide⟩ ?_
      rw [hl]
      refine V_icmp_ge dX7_likeNumbers_12 (fun z => absurd z (fun z => absurd ((cle (by repeat (first | with_reducible rfl | with_reducible exact nlit | with_reducible apply nadd | with_reducible apply nmul | with_reducible apply nsub | with_reducible assumption | omega)) (by repeat (first | with_reducible rfl | with_reducible exact nlit | with_reducible apply nadd | with_reducible apply nmul | with_reducible apply nsub | with_reducible assumption | omega)) (by omega) (by omega)).mp z) (by omega))) (fun _ => ?_)
      refine V_iload_n dX7_likeNumbers_15 rfl ?_
      refine V_aload_n dX7_likeNumbers_16 rfl ?_
      refine V_iload_n dX7_likeNumbers_17 rfl ?_
      refine V_iload dX7_likeNumbers_18 rfl ?_
      refine V_callVw dX7_likeNumbers_20 kX7_75 ykX7_numberOf (by decide) rfl rfl (tX7_numberOf (by omega) (by omega)) rfl (Nat.le_of_ble_eq_true rfl) ⟨by decide, by decide, by decide, by decide⟩ ?_
      refine V_aload_n dX7_likeNumbers_23 rfl ?_
      refine V_iload_n dX7_likeNumbers_24 rfl ?_
      refine V_iload dX7_likeNumbers_25 rfl ?_
      refine V_callVw dX7_likeNumbers_27 kX7_75 ykX7_numberOf (by decide) rfl rfl (tX7_numberOf (by omega) (by omega)) rfl (Nat.le_of_ble_eq_true rfl) ⟨by decide, by decide, by decide, by decide⟩ ?_
      have go := ih (k + 1) (by omega)
      unfold cntEq at go
      refine V_icmp_ne dX7_likeNumbers_30 (fun c30 => ?_) (fun c30 => ?_)
      · refine V_iconst (v := 0) dX7_likeNumbers_37 (by decide) ?_
        refine V_iadd dX7_likeNumbers_38 ?_
        refine V_istore_n dX7_likeNumbers_39 (by decide) (by dsimp only [List.set] <;> rfl) ?_
        refine V_iinc dX7_likeNumbers_40 rfl (ninc _) (by decide) (by dsimp only [List.set] <;> rfl) ?_
        refine V_goto dX7_likeNumbers_43 ?_
        rw [bI_f c30] at go
        exact go
      · refine V_iconst (v := 1) dX7_likeNumbers_33 (by decide) ?_
        refine V_goto dX7_likeNumbers_34 ?_
        refine V_iadd dX7_likeNumbers_38 ?_
        refine V_istore_n dX7_likeNumbers_39 (by decide) (by dsimp only [List.set] <;> rfl) ?_
        refine V_iinc dX7_likeNumbers_40 rfl (ninc _) (by decide) (by dsimp only [List.set] <;> rfl) ?_
        refine V_goto dX7_likeNumbers_43 ?_
        rw [bI_t c30] at go
        exact go
  refine V_iconst (v := 0) dX7_likeNumbers_0 (by decide) ?_
  refine V_istore_n dX7_likeNumbers_1 (by decide) (by dsimp only [List.set] <;> rfl) ?_
  refine V_iconst (v := 0) dX7_likeNumbers_2 (by decide) ?_
  refine V_istore dX7_likeNumbers_3 (by decide) (by dsimp only [List.set] <;> rfl) ?_
  exact key (tl i) 0 (by omega)
set_option maxHeartbeats 4000000 in
theorem tX7_bestPair_o (x1 : Int32) (hx : ¬ (0 ≤ x1 ∧ x1 ≤ 1)) : Ct G l yX7_bestPair cX7_bestPair 7 (some .int) 2 0 0 sz [.ref (a + 105), .int x1] (B G a C) (Rw G a (.int (-2)) C) := by
  refine Ct.of (own := RX7) (mn := "bestPair") (L0 := [some (.ref (a + 105)), some (.int x1), none, none, none, none, none]) (by decide +kernel) rfl rfl rfl (Nat.le_of_ble_eq_true rfl) rfl ?_
  refine V_iload_n dX7_bestPair_0 rfl ?_
  refine V_iconst (v := 0) dX7_bestPair_1 (by decide) ?_
  refine V_iconst (v := 1) dX7_bestPair_2 (by decide) ?_
  refine V_callSw dX7_bestPair_3 kX7_37 ykX7_in (tX7_in _ _ _) rfl (Nat.le_of_ble_eq_true rfl) ⟨by decide, by decide, by decide, by decide⟩ ?_
  refine V_if_ne dX7_bestPair_6 (fun z => absurd z (fun z => z (bI_f hx))) (fun _ => ?_)
  refine V_bipush (v := (-2)) dX7_bestPair_9 (by decide) ?_
  refine V_iret dX7_bestPair_11 rfl rfl rfl ?_
  exact Rw_i rfl rfl
set_option maxHeartbeats 4000000 in
def bpM (z : Nat → Int32) (tl : Nat → Nat) (tc : Nat) : Int32 × Int32 := bpO (lkM z tl) (cnM z tl) tc 0 tc (-5, -5)
theorem tX7_bestPair {tc : Nat} {tl : Nat → Nat} (x1 : Int32) (hx : 0 ≤ x1 ∧ x1 ≤ 1) (h31 : C 106 31 = nI tc) (htc : tc ≤ 6) (htl : tlM (C 106) tl tc) : Ct G l yX7_bestPair cX7_bestPair 7 (some .int) 2 0 0 sz [.ref (a + 105), .int x1] (B G a C) (Rw G a (.int (if x1 = 0 then (bpM (C 106) tl tc).1 else (bpM (C 106) tl tc).2)) C) := by
  refine Ct.of (own := RX7) (mn := "bestPair") (L0 := [some (.ref (a + 105)), some (.int x1), none, none, none, none, none]) (by decide +kernel) rfl rfl rfl (Nat.le_of_ble_eq_true rfl) rfl ?_
  refine V_iload_n dX7_bestPair_0 rfl ?_
  refine V_iconst (v := 0) dX7_bestPair_1 (by decide) ?_
  refine V_iconst (v := 1) dX7_bestPair_2 (by decide) ?_
  refine V_callSw dX7_bestPair_3 kX7_37 ykX7_in (tX7_in _ _ _) rfl (Nat.le_of_ble_eq_true rfl) ⟨by decide, by decide, by decide, by decide⟩ ?_
  refine V_if_ne dX7_bestPair_6 (fun _ => ?_) (fun z => absurd z ((bI_ne0.mpr hx)))
  have key : ∀ (m i : Nat) (s : Int32 × Int32) (L5 L6 : Option Value), i + m = tc → bpO (lkM (C 106) tl) (cnM (C 106) tl) tc i m s = bpM (C 106) tl tc → V G l RX7 "bestPair" cX7_bestPair 7 (some .int) (rmd 2 0 0) E0 (Qm G (Rw G a (.int (if x1 = 0 then (bpM (C 106) tl tc).1 else (bpM (C 106) tl tc).2)) C) sz 0 0) sz 0 0 21 [some (.ref (a + 105)), some (.int x1), some (.int s.1), some (.int s.2), some (.int (nI i)), L5, L6] [] (B G a C) := by
    intro m
    induction m with
    | zero =>
      intro i s L5 L6 hk hs
      obtain rfl : i = tc := by omega
      rw [bpO] at hs
      refine V_iload dX7_bestPair_21 rfl ?_
      refine V_aload_n dX7_bestPair_23 rfl ?_
      refine V_bget dX7_bestPair_24 fX7_7 (by decide) rfl (by (try simp only [mset_s, mset_n, pk_us, pk_un, ne_eq, Nat.reduceEqDiff, Nat.reduceAdd, not_false_eq_true, not_true_eq_false]) <;> rfl) ?_
      refine V_bipush (v := 31) dX7_bestPair_27 (by decide) ?_
      refine V_biald dX7_bestPair_29 (by decide) rfl (by repeat (first | with_reducible rfl | with_reducible exact nlit | with_reducible apply nadd | with_reducible apply nmul | with_reducible apply nsub | with_reducible assumption | omega)) (by omega) (by first | decide | omega) (by (try simp only [mset_s, mset_n, pk_us, pk_un, ne_eq, Nat.reduceEqDiff, Nat.reduceAdd, not_false_eq_true, not_true_eq_false]) <;> rfl) ?_
      rw [h31]
      refine V_icmp_ge dX7_bestPair_30 (fun _ => ?_) (fun z => absurd ((cle (by repeat (first | with_reducible rfl | with_reducible exact nlit | with_reducible apply nadd | with_reducible apply nmul | with_reducible apply nsub | with_reducible assumption | omega)) (by repeat (first | with_reducible rfl | with_reducible exact nlit | with_reducible apply nadd | with_reducible apply nmul | with_reducible apply nsub | with_reducible assumption | omega)) (by omega) (by omega)).mpr (by omega)) z)
      refine V_iload_n dX7_bestPair_129 rfl ?_
      by_cases h0 : x1 = 0
      · refine V_if_ne dX7_bestPair_130 (fun z => absurd z (fun z => z h0)) (fun _ => ?_)
        refine V_iload_n dX7_bestPair_133 rfl ?_
        refine V_goto dX7_bestPair_134 ?_
        refine V_iret dX7_bestPair_138 rfl rfl rfl ?_
        exact Rw_i (by rw [if_pos h0, hs]) rfl
      · refine V_if_ne dX7_bestPair_130 (fun _ => ?_) (fun z => absurd z h0)
        refine V_iload_n dX7_bestPair_137 rfl ?_
        refine V_iret dX7_bestPair_138 rfl rfl rfl ?_
        exact Rw_i (by rw [if_neg h0, hs]) rfl
    | succ m ih =>
      intro i s L5 L6 hk hs
      rw [bpO] at hs
      refine V_iload dX7_bestPair_21 rfl ?_
      refine V_aload_n dX7_bestPair_23 rfl ?_
      refine V_bget dX7_bestPair_24 fX7_7 (by decide) rfl (by (try simp only [mset_s, mset_n, pk_us, pk_un, ne_eq, Nat.reduceEqDiff, Nat.reduceAdd, not_false_eq_true, not_true_eq_false]) <;> rfl) ?_
      refine V_bipush (v := 31) dX7_bestPair_27 (by decide) ?_
      refine V_biald dX7_bestPair_29 (by decide) rfl (by repeat (first | with_reducible rfl | with_reducible exact nlit | with_reducible apply nadd | with_reducible apply nmul | with_reducible apply nsub | with_reducible assumption | omega)) (by omega) (by first | decide | omega) (by (try simp only [mset_s, mset_n, pk_us, pk_un, ne_eq, Nat.reduceEqDiff, Nat.reduceAdd, not_false_eq_true, not_true_eq_false]) <;> rfl) ?_
      rw [h31]
      refine V_icmp_ge dX7_bestPair_30 (fun z => absurd z (fun z => absurd ((cle (by repeat (first | with_reducible rfl | with_reducible exact nlit | with_reducible apply nadd | with_reducible apply nmul | with_reducible apply nsub | with_reducible assumption | omega)) (by repeat (first | with_reducible rfl | with_reducible exact nlit | with_reducible apply nadd | with_reducible apply nmul | with_reducible apply nsub | with_reducible assumption | omega)) (by omega) (by omega)).mp z) (by omega))) (fun _ => ?_)
      refine V_iload dX7_bestPair_33 rfl ?_
      refine V_iconst (v := 1) dX7_bestPair_35 (by decide) ?_
      refine V_iadd dX7_bestPair_36 ?_
      rw [show nI i + 1 = nI (i + 1) from nI_1 i]
      have key2 : ∀ (n j : Nat) (s : Int32 × Int32) (L6 : Option Value), j + n = tc → i < j → bpO (lkM (C 106) tl) (cnM (C 106) tl) tc (i + 1) m (bpI (lkM (C 106) tl) (cnM (C 106) tl) i j n s) = bpM (C 106) tl tc → V G l RX7 "bestPair" cX7_bestPair 7 (some .int) (rmd 2 0 0) E0 (Qm G (Rw G a (.int (if x1 = 0 then (bpM (C 106) tl tc).1 else (bpM (C 106) tl tc).2)) C) sz 0 0) sz 0 0 39 [some (.ref (a + 105)), some (.int x1), some (.int s.1), some (.int s.2), some (.int (nI i)), some (.int (nI j)), L6] [] (B G a C) := by
        intro n
        induction n with
        | zero =>
          intro j s L6 hj hij hs
          obtain rfl : j = tc := by omega
          rw [bpI] at hs
          refine V_iload dX7_bestPair_39 rfl ?_
          refine V_aload_n dX7_bestPair_41 rfl ?_
          refine V_bget dX7_bestPair_42 fX7_7 (by decide) rfl (by (try simp only [mset_s, mset_n, pk_us, pk_un, ne_eq, Nat.reduceEqDiff, Nat.reduceAdd, not_false_eq_true, not_true_eq_false]) <;> rfl) ?_
          refine V_bipush (v := 31) dX7_bestPair_45 (by decide) ?_
          refine V_biald dX7_bestPair_47 (by decide) rfl (by repeat (first | with_reducible rfl | with_reducible exact nlit | with_reducible apply nadd | with_reducible apply nmul | with_reducible apply nsub | with_reducible assumption | omega)) (by omega) (by first | decide | omega) (by (try simp only [mset_s, mset_n, pk_us, pk_un, ne_eq, Nat.reduceEqDiff, Nat.reduceAdd, not_false_eq_true, not_true_eq_false]) <;> rfl) ?_
          rw [h31]
          refine V_icmp_ge dX7_bestPair_48 (fun _ => ?_) (fun z => absurd ((cle (by repeat (first | with_reducible rfl | with_reducible exact nlit | with_reducible apply nadd | with_reducible apply nmul | with_reducible apply nsub | with_reducible assumption | omega)) (by repeat (first | with_reducible rfl | with_reducible exact nlit | with_reducible apply nadd | with_reducible apply nmul | with_reducible apply nsub | with_reducible assumption | omega)) (by omega) (by omega)).mpr (by omega)) z)
          refine V_iinc dX7_bestPair_123 rfl (ninc _) (by decide) (by dsimp only [List.set] <;> rfl) ?_
          refine V_goto dX7_bestPair_126 ?_
          exact ih (i + 1) s _ _ (by omega) hs
        | succ n ih2 =>
          intro j s L6 hj hij hs
          rw [bpI] at hs
          refine V_iload dX7_bestPair_39 rfl ?_
          refine V_aload_n dX7_bestPair_41 rfl ?_
          refine V_bget dX7_bestPair_42 fX7_7 (by decide) rfl (by (try simp only [mset_s, mset_n, pk_us, pk_un, ne_eq, Nat.reduceEqDiff, Nat.reduceAdd, not_false_eq_true, not_true_eq_false]) <;> rfl) ?_
          refine V_bipush (v := 31) dX7_bestPair_45 (by decide) ?_
          refine V_biald dX7_bestPair_47 (by decide) rfl (by repeat (first | with_reducible rfl | with_reducible exact nlit | with_reducible apply nadd | with_reducible apply nmul | with_reducible apply nsub | with_reducible assumption | omega)) (by omega) (by first | decide | omega) (by (try simp only [mset_s, mset_n, pk_us, pk_un, ne_eq, Nat.reduceEqDiff, Nat.reduceAdd, not_false_eq_true, not_true_eq_false]) <;> rfl) ?_
          rw [h31]
          refine V_icmp_ge dX7_bestPair_48 (fun z => absurd z (fun z => absurd ((cle (by repeat (first | with_reducible rfl | with_reducible exact nlit | with_reducible apply nadd | with_reducible apply nmul | with_reducible apply nsub | with_reducible assumption | omega)) (by repeat (first | with_reducible rfl | with_reducible exact nlit | with_reducible apply nadd | with_reducible apply nmul | with_reducible apply nsub | with_reducible assumption | omega)) (by omega) (by omega)).mp z) (by omega))) (fun _ => ?_)
          refine V_aload_n dX7_bestPair_51 rfl ?_
          refine V_iload dX7_bestPair_52 rfl ?_
          refine V_iload dX7_bestPair_54 rfl ?_
          refine V_callVw dX7_bestPair_56 kX7_78 ykX7_areLike (by decide) rfl rfl (tX7_areLike (by omega) (by omega) (htl i (by omega)).1 (htl j (by omega)).1 (htl i (by omega)).2 (htl j (by omega)).2) rfl (Nat.le_of_ble_eq_true rfl) ⟨by decide, by decide, by decide, by decide⟩ ?_
          have yes : lkM (C 106) tl i j = true ∧ s.2 < cnM (C 106) tl i j → V G l RX7 "bestPair" cX7_bestPair 7 (some .int) (rmd 2 0 0) E0 (Qm G (Rw G a (.int (if x1 = 0 then (bpM (C 106) tl tc).1 else (bpM (C 106) tl tc).2)) C) sz 0 0) sz 0 0 79 [some (.ref (a + 105)), some (.int x1), some (.int s.1), some (.int s.2), some (.int (nI i)), some (.int (nI j)), L6] [.int 1] (B G a C) := by
            intro hy
            have go := ih2 (j + 1) (10 * nI i + nI j, cnM (C 106) tl i j) (some (.int 1)) (by omega) (by omega) (by rw [← hs, bpS, if_pos hy])
            refine V_istore dX7_bestPair_79 (by decide) (by dsimp only [List.set] <;> rfl) ?_
            refine V_iload dX7_bestPair_81 rfl ?_
            refine V_if_eq dX7_bestPair_83 (fun z => absurd z (by decide)) (fun _ => ?_)
            refine V_bipush (v := 10) dX7_bestPair_86 (by decide) ?_
            refine V_iload dX7_bestPair_88 rfl ?_
            refine V_imul dX7_bestPair_90 ?_
            refine V_iload dX7_bestPair_91 rfl ?_
            refine V_iadd dX7_bestPair_93 ?_
            refine V_goto dX7_bestPair_94 ?_
            refine V_istore_n dX7_bestPair_98 (by decide) (by dsimp only [List.set] <;> rfl) ?_
            refine V_iload dX7_bestPair_99 rfl ?_
            refine V_if_eq dX7_bestPair_101 (fun z => absurd z (by decide)) (fun _ => ?_)
            refine V_aload_n dX7_bestPair_104 rfl ?_
            refine V_iload dX7_bestPair_105 rfl ?_
            refine V_iload dX7_bestPair_107 rfl ?_
            refine V_callVw dX7_bestPair_109 kX7_147 ykX7_likeNumbers (by decide) rfl rfl (tX7_likeNumbers htc htl (by omega) (by omega)) rfl (Nat.le_of_ble_eq_true rfl) ⟨by decide, by decide, by decide, by decide⟩ ?_
            refine V_goto dX7_bestPair_112 ?_
            refine V_istore_n dX7_bestPair_116 (by decide) (by dsimp only [List.set] <;> rfl) ?_
            refine V_iinc dX7_bestPair_117 rfl (ninc _) (by decide) (by dsimp only [List.set] <;> rfl) ?_
            refine V_goto dX7_bestPair_120 ?_
            exact go
          have no : ¬ (lkM (C 106) tl i j = true ∧ s.2 < cnM (C 106) tl i j) → V G l RX7 "bestPair" cX7_bestPair 7 (some .int) (rmd 2 0 0) E0 (Qm G (Rw G a (.int (if x1 = 0 then (bpM (C 106) tl tc).1 else (bpM (C 106) tl tc).2)) C) sz 0 0) sz 0 0 79 [some (.ref (a + 105)), some (.int x1), some (.int s.1), some (.int s.2), some (.int (nI i)), some (.int (nI j)), L6] [.int 0] (B G a C) := by
            intro hy
            have go := ih2 (j + 1) s (some (.int 0)) (by omega) (by omega) (by rw [← hs, bpS, if_neg hy])
            refine V_istore dX7_bestPair_79 (by decide) (by dsimp only [List.set] <;> rfl) ?_
            refine V_iload dX7_bestPair_81 rfl ?_
            refine V_if_eq dX7_bestPair_83 (fun _ => ?_) (fun z => absurd rfl z)
            refine V_iload_n dX7_bestPair_97 rfl ?_
            refine V_istore_n dX7_bestPair_98 (by decide) (by dsimp only [List.set] <;> rfl) ?_
            refine V_iload dX7_bestPair_99 rfl ?_
            refine V_if_eq dX7_bestPair_101 (fun _ => ?_) (fun z => absurd rfl z)
            refine V_iload_n dX7_bestPair_115 rfl ?_
            refine V_istore_n dX7_bestPair_116 (by decide) (by dsimp only [List.set] <;> rfl) ?_
            refine V_iinc dX7_bestPair_117 rfl (ninc _) (by decide) (by dsimp only [List.set] <;> rfl) ?_
            refine V_goto dX7_bestPair_120 ?_
            exact go
          by_cases hu : likeU (C 106) i j (tl i) (tl j) (tl i)
          · refine V_if_eq dX7_bestPair_59 (fun z => absurd z (bI_ne0.mpr hu)) (fun _ => ?_)
            refine V_aload_n dX7_bestPair_62 rfl ?_
            refine V_iload dX7_bestPair_63 rfl ?_
            refine V_iload dX7_bestPair_65 rfl ?_
            refine V_callVw dX7_bestPair_67 kX7_147 ykX7_likeNumbers (by decide) rfl rfl (tX7_likeNumbers htc htl (by omega) (by omega)) rfl (Nat.le_of_ble_eq_true rfl) ⟨by decide, by decide, by decide, by decide⟩ ?_
            refine V_iload_n dX7_bestPair_70 rfl ?_
            refine V_icmp_le dX7_bestPair_71 (fun c71 => ?_) (fun c71 => ?_)
            · refine V_iconst (v := 0) dX7_bestPair_78 (by decide) ?_
              exact no (fun z => by have := z.2; rw [i_lt] at this; rw [i_le] at c71; omega)
            · refine V_iconst (v := 1) dX7_bestPair_74 (by decide) ?_
              refine V_goto dX7_bestPair_75 ?_
              exact yes ⟨decide_eq_true hu, by rw [i_lt]; rw [i_le] at c71; omega⟩
          · refine V_if_eq dX7_bestPair_59 (fun _ => ?_) (fun z => absurd (bI_f hu) z)
            refine V_iconst (v := 0) dX7_bestPair_78 (by decide) ?_
            exact no (fun z => hu (of_decide_eq_true z.1))
      refine V_istore dX7_bestPair_37 (by decide) (by dsimp only [List.set] <;> rfl) ?_
      exact key2 (tc - (i + 1)) (i + 1) s _ (by omega) (by omega) hs
  refine V_bipush (v := (-5)) dX7_bestPair_12 (by decide) ?_
  refine V_istore_n dX7_bestPair_14 (by decide) (by dsimp only [List.set] <;> rfl) ?_
  refine V_bipush (v := (-5)) dX7_bestPair_15 (by decide) ?_
  refine V_istore_n dX7_bestPair_17 (by decide) (by dsimp only [List.set] <;> rfl) ?_
  refine V_iconst (v := 0) dX7_bestPair_18 (by decide) ?_
  refine V_istore dX7_bestPair_19 (by decide) (by dsimp only [List.set] <;> rfl) ?_
  exact key tc 0 (-5, -5) _ _ (by omega) rfl
end MODEL
