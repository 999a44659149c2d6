/-! History: dropOldest, push, pop. -/
theorem stkH {G : GT} {a k : Nat} (h : k < 4) : StK G a (18 + 15 * k) := by
  rcases (show k = 0 ∨ k = 1 ∨ k = 2 ∨ k = 3 by omega) with z | z | z | z <;> subst z
  · exact stk18
  · exact stk33
  · exact stk48
  · exact stk63
section ROWS5
variable {G : GT} {l : Launch} {own mn : String} {cc : ByteArray} {mL : Nat} {ret : Option FieldType} {R : Room} {E : ET} {Qc : QT} {sz k n pc nx tg : Nat} {L : List (Option Value)} {st : List Value} {a : Nat} {C : CT}
theorem V_baald {m : Nat} {i : Int32} (hd : Dc cc pc .aaload 1 nx) (hi : i = nI m) (hm : m < 4)
    (kk : V G l own mn cc mL ret R E Qc sz k n nx L (.ref (a + (18 + 15 * (C 17 m).toInt.toNat)) :: st) (B G a C)) : V G l own mn cc mL ret R E Qc sz k n pc L (.int i :: .ref (a + 17) :: st) (B G a C) := by
  subst hi
  exact V_aald hd (B_at (by decide) rfl) (vp_in_nI hm (by omega)) (by rw [nI_cl (by omega)]; rfl) kk
theorem V_baast {m : Nat} {i x : Int32} (hd : Dc cc pc .aastore 1 nx) (hi : i = nI m) (hm : m < 4) (hx : x.toInt.toNat < 4)
    (kk : V G l own mn cc mL ret R E Qc sz k n nx L st (B G a (mset C 17 (upd (C 17) m x)))) : V G l own mn cc mL ret R E Qc sz k n pc L (.ref (a + (18 + 15 * x.toInt.toNat)) :: .int i :: .ref (a + 17) :: st) (B G a C) := by
  subst hi
  refine V_aast hd (B_at (by decide) rfl) (vp_in_nI hm (by omega)) (B_at (by omega) ((stkH hx).o _)) ?_
  rw [nI_cl (by omega), B_set (f := upd (C 17) m x) (by decide) ?_]
  · exact kk
  · show sA G 4 _ = sA G 4 _
    congr 1
    congr 1
    congr 1
    congr 1
    congr 1
    congr 1
    funext j
    unfold va_up upd
    by_cases h : j = m
    · rw [if_pos h, if_pos h]
    · rw [if_neg h, if_neg h]
end ROWS5
def hK (C : CT) (i : Nat) : Nat := (C 17 i).toInt.toNat
def hB (C : CT) (i : Nat) : Nat := 18 + 15 * hK C i
def HiK (C : CT) : Prop := (∀ i, i < 4 → hK C i < 4) ∧ ∀ i j, i < 4 → j < 4 → hK C i = hK C j → i = j
def rotF (f : Nat → Int32) : Nat → Int32 := fun j => if j < 3 then f (j + 1) else if j = 3 then f 0 else f j
section CLS
variable {G : GT} {l : Launch} {sz a : Nat} {C : CT}
set_option maxHeartbeats 4000000 in
theorem tX0_dropOldest (hi : HiK C) (h0 : C 16 0 = 4) : Ct G l yX0_dropOldest cX0_dropOldest 3 none 0 0 0 sz [.ref (a + 16)] (B G a C) (Rwu G a (mset (mset C 17 (rotF (C 17))) 16 (upd (C 16) 0 3))) := by
  have k0 := hi.1 0 (by decide)
  have k1 := hi.1 1 (by decide)
  have k2 := hi.1 2 (by decide)
  have k3 := hi.1 3 (by decide)
  unfold hK at k0 k1 k2 k3
  refine Ct.of (own := RX0) (mn := "dropOldest") (L0 := [some (.ref (a + 16)), none, none]) (by decide +kernel) rfl rfl rfl (Nat.le_of_ble_eq_true rfl) rfl ?_
  refine V_aload_n dX0_dropOldest_0 rfl ?_
  refine V_bget dX0_dropOldest_1 fX0_11 (by decide) rfl (by (try simp only [mset_s, mset_n, pk_us, pk_un, ne_eq, Nat.reduceEqDiff, Nat.reduceAdd, not_false_eq_true, not_true_eq_false]) <;> rfl) ?_
  refine V_alens (v := 4) dX0_dropOldest_4 (B_at (j := 17) (by decide) rfl) rfl ?_
  refine V_if_ne dX0_dropOldest_5 (fun _ => ?_) (fun z => absurd z ((by decide)))
  refine V_aload_n dX0_dropOldest_9 rfl ?_
  refine V_bget dX0_dropOldest_10 fX0_11 (by decide) rfl (by (try simp only [mset_s, mset_n, pk_us, pk_un, ne_eq, Nat.reduceEqDiff, Nat.reduceAdd, not_false_eq_true, not_true_eq_false]) <;> rfl) ?_
  refine V_iconst (v := 0) dX0_dropOldest_13 (by decide) ?_
  refine V_baald dX0_dropOldest_14 (by repeat (first | with_reducible rfl | with_reducible exact nlit | with_reducible apply nadd | with_reducible apply nmul | with_reducible apply nsub | with_reducible assumption | omega)) (by omega) ?_
  refine V_astore_n dX0_dropOldest_15 (by decide) (by dsimp only [List.set] <;> rfl) rfl ?_
  refine V_iconst (v := 1) dX0_dropOldest_16 (by decide) ?_
  refine V_istore_n dX0_dropOldest_17 (by decide) (by dsimp only [List.set] <;> rfl) rfl ?_
  refine V_iload_n dX0_dropOldest_18 rfl ?_
  refine V_aload_n dX0_dropOldest_19 rfl ?_
  refine V_bget dX0_dropOldest_20 fX0_11 (by decide) rfl (by (try simp only [mset_s, mset_n, pk_us, pk_un, ne_eq, Nat.reduceEqDiff, Nat.reduceAdd, not_false_eq_true, not_true_eq_false]) <;> rfl) ?_
  refine V_alens (v := 4) dX0_dropOldest_23 (B_at (j := 17) (by decide) rfl) rfl ?_
  refine V_icmp_ge dX0_dropOldest_24 (fun z => absurd z (by decide)) (fun _ => ?_)
  refine V_aload_n dX0_dropOldest_27 rfl ?_
  refine V_bget dX0_dropOldest_28 fX0_11 (by decide) rfl (by (try simp only [mset_s, mset_n, pk_us, pk_un, ne_eq, Nat.reduceEqDiff, Nat.reduceAdd, not_false_eq_true, not_true_eq_false]) <;> rfl) ?_
  refine V_iload_n dX0_dropOldest_31 rfl ?_
  refine V_iconst (v := 1) dX0_dropOldest_32 (by decide) ?_
  refine V_isub dX0_dropOldest_33 ?_
  refine V_aload_n dX0_dropOldest_34 rfl ?_
  refine V_bget dX0_dropOldest_35 fX0_11 (by decide) rfl (by (try simp only [mset_s, mset_n, pk_us, pk_un, ne_eq, Nat.reduceEqDiff, Nat.reduceAdd, not_false_eq_true, not_true_eq_false]) <;> rfl) ?_
  refine V_iload_n dX0_dropOldest_38 rfl ?_
  refine V_baald dX0_dropOldest_39 (by repeat (first | with_reducible rfl | with_reducible exact nlit | with_reducible apply nadd | with_reducible apply nmul | with_reducible apply nsub | with_reducible assumption | omega)) (by omega) ?_
  refine V_baast dX0_dropOldest_40 (by repeat (first | with_reducible rfl | with_reducible exact nlit | with_reducible apply nadd | with_reducible apply nmul | with_reducible apply nsub | with_reducible assumption | omega)) (by omega) k1 ?_
  refine V_iinc dX0_dropOldest_41 rfl (ninc _) (by decide) (by dsimp only [List.set] <;> rfl) ?_
  refine V_goto dX0_dropOldest_44 ?_
  refine V_iload_n dX0_dropOldest_18 rfl ?_
  refine V_aload_n dX0_dropOldest_19 rfl ?_
  refine V_bget dX0_dropOldest_20 fX0_11 (by decide) rfl (by (try simp only [mset_s, mset_n, pk_us, pk_un, ne_eq, Nat.reduceEqDiff, Nat.reduceAdd, not_false_eq_true, not_true_eq_false]) <;> rfl) ?_
  refine V_alens (v := 4) dX0_dropOldest_23 (B_at (j := 17) (by decide) rfl) rfl ?_
  refine V_icmp_ge dX0_dropOldest_24 (fun z => absurd z (by decide)) (fun _ => ?_)
  refine V_aload_n dX0_dropOldest_27 rfl ?_
  refine V_bget dX0_dropOldest_28 fX0_11 (by decide) rfl (by (try simp only [mset_s, mset_n, pk_us, pk_un, ne_eq, Nat.reduceEqDiff, Nat.reduceAdd, not_false_eq_true, not_true_eq_false]) <;> rfl) ?_
  refine V_iload_n dX0_dropOldest_31 rfl ?_
  refine V_iconst (v := 1) dX0_dropOldest_32 (by decide) ?_
  refine V_isub dX0_dropOldest_33 ?_
  refine V_aload_n dX0_dropOldest_34 rfl ?_
  refine V_bget dX0_dropOldest_35 fX0_11 (by decide) rfl (by (try simp only [mset_s, mset_n, pk_us, pk_un, ne_eq, Nat.reduceEqDiff, Nat.reduceAdd, not_false_eq_true, not_true_eq_false]) <;> rfl) ?_
  refine V_iload_n dX0_dropOldest_38 rfl ?_
  refine V_baald dX0_dropOldest_39 (by repeat (first | with_reducible rfl | with_reducible exact nlit | with_reducible apply nadd | with_reducible apply nmul | with_reducible apply nsub | with_reducible assumption | omega)) (by omega) ?_
  refine V_baast dX0_dropOldest_40 (by repeat (first | with_reducible rfl | with_reducible exact nlit | with_reducible apply nadd | with_reducible apply nmul | with_reducible apply nsub | with_reducible assumption | omega)) (by omega) (by exact k2) ?_
  refine V_iinc dX0_dropOldest_41 rfl (ninc _) (by decide) (by dsimp only [List.set] <;> rfl) ?_
  refine V_goto dX0_dropOldest_44 ?_
  refine V_iload_n dX0_dropOldest_18 rfl ?_
  refine V_aload_n dX0_dropOldest_19 rfl ?_
  refine V_bget dX0_dropOldest_20 fX0_11 (by decide) rfl (by (try simp only [mset_s, mset_n, pk_us, pk_un, ne_eq, Nat.reduceEqDiff, Nat.reduceAdd, not_false_eq_true, not_true_eq_false]) <;> rfl) ?_
  refine V_alens (v := 4) dX0_dropOldest_23 (B_at (j := 17) (by decide) rfl) rfl ?_
  refine V_icmp_ge dX0_dropOldest_24 (fun z => absurd z (by decide)) (fun _ => ?_)
  refine V_aload_n dX0_dropOldest_27 rfl ?_
  refine V_bget dX0_dropOldest_28 fX0_11 (by decide) rfl (by (try simp only [mset_s, mset_n, pk_us, pk_un, ne_eq, Nat.reduceEqDiff, Nat.reduceAdd, not_false_eq_true, not_true_eq_false]) <;> rfl) ?_
  refine V_iload_n dX0_dropOldest_31 rfl ?_
  refine V_iconst (v := 1) dX0_dropOldest_32 (by decide) ?_
  refine V_isub dX0_dropOldest_33 ?_
  refine V_aload_n dX0_dropOldest_34 rfl ?_
  refine V_bget dX0_dropOldest_35 fX0_11 (by decide) rfl (by (try simp only [mset_s, mset_n, pk_us, pk_un, ne_eq, Nat.reduceEqDiff, Nat.reduceAdd, not_false_eq_true, not_true_eq_false]) <;> rfl) ?_
  refine V_iload_n dX0_dropOldest_38 rfl ?_
  refine V_baald dX0_dropOldest_39 (by repeat (first | with_reducible rfl | with_reducible exact nlit | with_reducible apply nadd | with_reducible apply nmul | with_reducible apply nsub | with_reducible assumption | omega)) (by omega) ?_
  refine V_baast dX0_dropOldest_40 (by repeat (first | with_reducible rfl | with_reducible exact nlit | with_reducible apply nadd | with_reducible apply nmul | with_reducible apply nsub | with_reducible assumption | omega)) (by omega) (by exact k3) ?_
  refine V_iinc dX0_dropOldest_41 rfl (ninc _) (by decide) (by dsimp only [List.set] <;> rfl) ?_
  refine V_goto dX0_dropOldest_44 ?_
  refine V_iload_n dX0_dropOldest_18 rfl ?_
  refine V_aload_n dX0_dropOldest_19 rfl ?_
  refine V_bget dX0_dropOldest_20 fX0_11 (by decide) rfl (by (try simp only [mset_s, mset_n, pk_us, pk_un, ne_eq, Nat.reduceEqDiff, Nat.reduceAdd, not_false_eq_true, not_true_eq_false]) <;> rfl) ?_
  refine V_alens (v := 4) dX0_dropOldest_23 (B_at (j := 17) (by decide) rfl) rfl ?_
  refine V_icmp_ge dX0_dropOldest_24 (fun _ => ?_) (fun z => absurd (by decide) z)
  refine V_aload_n dX0_dropOldest_47 rfl ?_
  refine V_bget dX0_dropOldest_48 fX0_11 (by decide) rfl (by (try simp only [mset_s, mset_n, pk_us, pk_un, ne_eq, Nat.reduceEqDiff, Nat.reduceAdd, not_false_eq_true, not_true_eq_false]) <;> rfl) ?_
  refine V_aload_n dX0_dropOldest_51 rfl ?_
  refine V_bget dX0_dropOldest_52 fX0_11 (by decide) rfl (by (try simp only [mset_s, mset_n, pk_us, pk_un, ne_eq, Nat.reduceEqDiff, Nat.reduceAdd, not_false_eq_true, not_true_eq_false]) <;> rfl) ?_
  refine V_alens (v := 4) dX0_dropOldest_55 (B_at (j := 17) (by decide) rfl) rfl ?_
  refine V_iconst (v := 1) dX0_dropOldest_56 (by decide) ?_
  refine V_isub dX0_dropOldest_57 ?_
  refine V_aload_n dX0_dropOldest_58 rfl ?_
  refine V_baast dX0_dropOldest_59 (by repeat (first | with_reducible rfl | with_reducible exact nlit | with_reducible apply nadd | with_reducible apply nmul | with_reducible apply nsub | with_reducible assumption | omega)) (by omega) k0 ?_
  refine V_aload_n dX0_dropOldest_60 rfl ?_
  refine V_dup dX0_dropOldest_61 rfl ?_
  refine V_bget dX0_dropOldest_62 fX0_18 (by decide) rfl (by (try simp only [mset_s, mset_n, pk_us, pk_un, ne_eq, Nat.reduceEqDiff, Nat.reduceAdd, not_false_eq_true, not_true_eq_false]) <;> rfl) ?_
  refine V_iconst (v := 1) dX0_dropOldest_65 (by decide) ?_
  refine V_isub dX0_dropOldest_66 ?_
  refine V_bputi (i0 := 0) dX0_dropOldest_67 fX0_18 (by decide) rfl rfl rfl (Nat.le_of_ble_eq_true rfl) rfl ?_
  refine V_vret dX0_dropOldest_70 rfl rfl rfl ?_
  refine Rwu_i ?_
  have e : ∀ f g : Nat → Int32, f 0 = g 0 → f 1 = g 1 → f 2 = g 2 → f 3 = g 3 → (∀ j, 4 ≤ j → f j = g j) → f = g := by
    intro f g e0 e1 e2 e3 e4
    funext j
    rcases (show j = 0 ∨ j = 1 ∨ j = 2 ∨ j = 3 ∨ 4 ≤ j by omega) with z | z | z | z | z
    · rw [z, e0]
    · rw [z, e1]
    · rw [z, e2]
    · rw [z, e3]
    · exact e4 j z
  simp only [mset_ss]
  rw [show mset C 17 _ 16 = C 16 from mset_n (by decide), h0]
  congr 1
  congr 1
  refine e _ _ rfl rfl rfl rfl (fun j hj => ?_)
  simp only [mset_s, mset_ss, mset_n, pk_us, pk_un, uus, ne_eq, Nat.reduceEqDiff, Nat.reduceAdd, not_false_eq_true, not_true_eq_false]
  rw [pk_un (by show j ≠ 3; omega), pk_un (by omega), pk_un (by omega), pk_un (by omega)]
  unfold rotF
  rw [if_neg (by omega), if_neg (by omega)]
theorem HiK_rot {C C' : CT} (hi : HiK C) (h : C' 17 = rotF (C 17)) : HiK C' := by
  have r0 : hK C' 0 = hK C 1 := by unfold hK; rw [h]; rfl
  have r1 : hK C' 1 = hK C 2 := by unfold hK; rw [h]; rfl
  have r2 : hK C' 2 = hK C 3 := by unfold hK; rw [h]; rfl
  have r3 : hK C' 3 = hK C 0 := by unfold hK; rw [h]; rfl
  have q : ∀ i, i < 4 → hK C' i = hK C ((i + 1) % 4) := by
    intro i hi4
    rcases (show i = 0 ∨ i = 1 ∨ i = 2 ∨ i = 3 by omega) with z | z | z | z <;> subst z
    · exact r0
    · exact r1
    · exact r2
    · exact r3
  refine ⟨fun i h4 => by rw [q i h4]; exact hi.1 _ (by omega), fun i j h1 h2 h3 => ?_⟩
  rw [q i h1, q j h2] at h3
  have := hi.2 _ _ (by omega) (by omega) h3
  omega
theorem HiK_cg {C C' : CT} (hi : HiK C) (h : C' 17 = C 17) : HiK C' := by
  have q : ∀ i, hK C' i = hK C i := fun i => by unfold hK; rw [h]
  exact ⟨fun i h4 => by rw [q]; exact hi.1 i h4, fun i j h1 h2 h3 => hi.2 i j h1 h2 (by rw [← q i, ← q j]; exact h3)⟩
/-- what pushing leaves: n states were there -/
def Pu (C : CT) (n : Nat) (C' : CT) : Prop := (∀ i, (i < 16 ∨ 78 ≤ i) → C' i = C i) ∧ C' 16 0 = nI (svN n) ∧ HiK C' ∧ BlE C' (hB C' (svN n - 1)) C 1 ∧ ∀ i, i < svN n - 1 → BlE C' (hB C' i) C (hB C (i + (if n = 4 then 1 else 0)))
def Rpu (G : GT) (a : Nat) (C : CT) (n : Nat) : Option Value → Hp → Prop := fun r h' => ∃ C', r = none ∧ h' = B G a C' ∧ Pu C n C'
set_option maxHeartbeats 4000000 in
theorem tX0_push {n : Nat} (hi : HiK C) (h0 : C 16 0 = nI n) (hn : n ≤ 4) (hop : C 1 0 = 0 ∨ C 1 0 = 1) : Ct G l yX0_push cX0_push 2 none 4 0 0 sz [.ref (a + 16), .ref (a + 1)] (B G a C) (Rpu G a C n) := by
  refine Ct.of (own := RX0) (mn := "push") (L0 := [some (.ref (a + 16)), some (.ref (a + 1))]) (by decide +kernel) rfl rfl rfl (Nat.le_of_ble_eq_true rfl) rfl ?_
  have tail : ∀ (C1 : CT) (m : Nat), m < 4 → HiK C1 → C1 16 0 = nI m → C1 1 0 = C 1 0 → (∀ C' : CT, (∀ i, i ≠ 16 → (i < hB C1 m ∨ hB C1 m + 15 ≤ i) → C' i = C1 i) → C' 16 0 = nI (m + 1) → BlE C' (hB C1 m) C1 1 → Rpu G a C n none (B G a C')) → V G l RX0 "push" cX0_push 2 none (rmd 4 0 0) E0 (Qm G (Rpu G a C n) sz 0 0) sz 0 0 16 [some (.ref (a + 16)), some (.ref (a + 1))] [] (B G a C1) := by
    intro C1 m hm hi1 h1 h2 fin
    have km := hi1.1 m hm
    have hb : hB C1 m = 18 + 15 * (C1 17 m).toInt.toNat := rfl
    refine V_aload_n dX0_push_16 rfl ?_
    refine V_bget dX0_push_17 fX0_18 (by decide) rfl (by (try simp only [mset_s, mset_n, pk_us, pk_un, ne_eq, Nat.reduceEqDiff, Nat.reduceAdd, not_false_eq_true, not_true_eq_false]) <;> rfl) ?_
    rw [h1]
    refine V_if_lt dX0_push_20 (fun z => absurd z (fun z => absurd ((clt (by repeat (first | with_reducible rfl | with_reducible exact nlit | with_reducible apply nadd | with_reducible apply nmul | with_reducible apply nsub | with_reducible assumption | omega)) (by repeat (first | with_reducible rfl | with_reducible exact nlit | with_reducible apply nadd | with_reducible apply nmul | with_reducible apply nsub | with_reducible assumption | omega)) (by omega) (by omega)).mp z) (by omega))) (fun _ => ?_)
    refine V_aload_n dX0_push_23 rfl ?_
    refine V_bget dX0_push_24 fX0_18 (by decide) rfl (by (try simp only [mset_s, mset_n, pk_us, pk_un, ne_eq, Nat.reduceEqDiff, Nat.reduceAdd, not_false_eq_true, not_true_eq_false]) <;> rfl) ?_
    rw [h1]
    refine V_aload_n dX0_push_27 rfl ?_
    refine V_bget dX0_push_28 fX0_11 (by decide) rfl (by (try simp only [mset_s, mset_n, pk_us, pk_un, ne_eq, Nat.reduceEqDiff, Nat.reduceAdd, not_false_eq_true, not_true_eq_false]) <;> rfl) ?_
    refine V_alens (v := 4) dX0_push_31 (B_at (j := 17) (by decide) rfl) rfl ?_
    refine V_icmp_ge dX0_push_32 (fun z => absurd z (fun z => absurd ((cle (by repeat (first | with_reducible rfl | with_reducible exact nlit | with_reducible apply nadd | with_reducible apply nmul | with_reducible apply nsub | with_reducible assumption | omega)) (by repeat (first | with_reducible rfl | with_reducible exact nlit | with_reducible apply nadd | with_reducible apply nmul | with_reducible apply nsub | with_reducible assumption | omega)) (by omega) (by omega)).mp z) (by omega))) (fun _ => ?_)
    refine V_aload_n dX0_push_35 rfl ?_
    refine V_bget dX0_push_36 fX0_11 (by decide) rfl (by (try simp only [mset_s, mset_n, pk_us, pk_un, ne_eq, Nat.reduceEqDiff, Nat.reduceAdd, not_false_eq_true, not_true_eq_false]) <;> rfl) ?_
    refine V_aload_n dX0_push_39 rfl ?_
    refine V_bget dX0_push_40 fX0_18 (by decide) rfl (by (try simp only [mset_s, mset_n, pk_us, pk_un, ne_eq, Nat.reduceEqDiff, Nat.reduceAdd, not_false_eq_true, not_true_eq_false]) <;> rfl) ?_
    rw [h1]
    refine V_baald dX0_push_43 (by repeat (first | with_reducible rfl | with_reducible exact nlit | with_reducible apply nadd | with_reducible apply nmul | with_reducible apply nsub | with_reducible assumption | omega)) (by omega) ?_
    refine V_ifnull dX0_push_44 ?_
    refine V_aload_n dX0_push_47 rfl ?_
    refine V_bget dX0_push_48 fX0_11 (by decide) rfl (by (try simp only [mset_s, mset_n, pk_us, pk_un, ne_eq, Nat.reduceEqDiff, Nat.reduceAdd, not_false_eq_true, not_true_eq_false]) <;> rfl) ?_
    refine V_aload_n dX0_push_51 rfl ?_
    refine V_bget dX0_push_52 fX0_18 (by decide) rfl (by (try simp only [mset_s, mset_n, pk_us, pk_un, ne_eq, Nat.reduceEqDiff, Nat.reduceAdd, not_false_eq_true, not_true_eq_false]) <;> rfl) ?_
    rw [h1]
    refine V_baald dX0_push_55 (by repeat (first | with_reducible rfl | with_reducible exact nlit | with_reducible apply nadd | with_reducible apply nmul | with_reducible apply nsub | with_reducible assumption | omega)) (by omega) ?_
    refine V_aload_n dX0_push_56 rfl ?_
    rw [← hb]
    refine V_callV dX0_push_57 kX0_25 ykX4_copyFrom (B_at (by omega) ((stkH km).o _)) rfl (tX4_copyFrom (s := hB C1 m) (s' := 1) (stkH km) stk1 (by unfold hB; omega) (by rw [h2]; exact hop)) rfl (Nat.le_of_ble_eq_true rfl) ⟨by decide, by decide, by decide, by decide⟩ ?_
    intro r h' hq
    obtain ⟨C2, rfl, rfl, h3, h4⟩ := hq
    show V G l RX0 "push" cX0_push 2 none (rmd 4 0 0) E0 (Qm G (Rpu G a C n) sz 0 0) sz 0 0 60 [some (.ref (a + 16)), some (.ref (a + 1))] [] (B G a C2)
    have e16 : C2 16 = C1 16 := h3 16 (Or.inl (by unfold hB; omega))
    refine V_aload_n dX0_push_60 rfl ?_
    refine V_dup dX0_push_61 rfl ?_
    refine V_bget dX0_push_62 fX0_18 (by decide) rfl (by (try simp only [mset_s, mset_n, pk_us, pk_un, ne_eq, Nat.reduceEqDiff, Nat.reduceAdd, not_false_eq_true, not_true_eq_false]) <;> rfl) ?_
    rw [e16, h1]
    refine V_iconst (v := 1) dX0_push_65 (by decide) ?_
    refine V_iadd dX0_push_66 ?_
    refine V_bputi (i0 := 0) dX0_push_67 fX0_18 (by decide) rfl rfl rfl (Nat.le_of_ble_eq_true rfl) rfl ?_
    refine V_vret dX0_push_70 rfl rfl rfl ?_
    refine fin _ (fun i hi2 hi3 => ?_) ?_ ?_
    · rw [mset_n hi2]; exact h3 i hi3
    · rw [mset_s, pk_us, nadd rfl (nlit (n := 1))]
    · intro i hi2 j hj
      rw [mset_n (by unfold hB; omega)]
      exact h4 i hi2 j hj
  refine V_aload_n dX0_push_0 rfl ?_
  refine V_bget dX0_push_1 fX0_18 (by decide) rfl (by (try simp only [mset_s, mset_n, pk_us, pk_un, ne_eq, Nat.reduceEqDiff, Nat.reduceAdd, not_false_eq_true, not_true_eq_false]) <;> rfl) ?_
  rw [h0]
  refine V_aload_n dX0_push_4 rfl ?_
  refine V_bget dX0_push_5 fX0_11 (by decide) rfl (by (try simp only [mset_s, mset_n, pk_us, pk_un, ne_eq, Nat.reduceEqDiff, Nat.reduceAdd, not_false_eq_true, not_true_eq_false]) <;> rfl) ?_
  refine V_alens (v := 4) dX0_push_8 (B_at (j := 17) (by decide) rfl) rfl ?_
  by_cases hn4 : n = 4
  · have h04 : C 16 0 = 4 := by rw [h0, hn4]; rfl
    refine V_icmp_lt dX0_push_9 (fun z => absurd z (fun z => absurd ((clt (by repeat (first | with_reducible rfl | with_reducible exact nlit | with_reducible apply nadd | with_reducible apply nmul | with_reducible apply nsub | with_reducible assumption | omega)) (by repeat (first | with_reducible rfl | with_reducible exact nlit | with_reducible apply nadd | with_reducible apply nmul | with_reducible apply nsub | with_reducible assumption | omega)) (by omega) (by omega)).mp z) (by omega))) (fun _ => ?_)
    refine V_aload_n dX0_push_12 rfl ?_
    refine V_callVu dX0_push_13 kX0_22 ykX0_dropOldest (by decide) rfl rfl (tX0_dropOldest hi h04) rfl (Nat.le_of_ble_eq_true rfl) ⟨by decide, by decide, by decide, by decide⟩ ?_
    have e17 : mset (mset C 17 (rotF (C 17))) 16 (upd (C 16) 0 3) 17 = rotF (C 17) := by rw [mset_n (by decide), mset_s]
    have hi1 := HiK_rot hi e17
    refine tail _ 3 (by decide) hi1 (by rw [mset_s]; rfl) (by rw [mset_n (by decide), mset_n (by decide)]) (fun C' c1 c2 c3 => ?_)
    have rr : ∀ i, i < 3 → hB (mset (mset C 17 (rotF (C 17))) 16 (upd (C 16) 0 3)) i = hB C (i + 1) := by
      intro i hi3
      unfold hB hK
      rw [e17]
      unfold rotF
      rw [if_pos hi3]
    obtain ⟨C1, hC1⟩ : ∃ C1, C1 = mset (mset C 17 (rotF (C 17))) 16 (upd (C 16) 0 3) := ⟨_, rfl⟩
    have o1 : ∀ i, i ≠ 16 → i ≠ 17 → C1 i = C i := fun i a1 a2 => by rw [hC1, mset_n a1, mset_n a2]
    rw [← hC1] at e17 hi1 c1 c3 rr
    have km := hi1.1 3 (by decide)
    have e17' : C' 17 = C1 17 := c1 17 (by decide) (Or.inl (by unfold hB; omega))
    have hb' : ∀ i, hB C' i = hB C1 i := fun i => by unfold hB hK; rw [e17']
    have sv : svN n = 4 := by unfold svN; rw [if_pos hn4]
    refine ⟨C', rfl, rfl, fun i hi2 => ?_, ?_, HiK_cg hi1 e17', ?_, ?_⟩
    · rw [c1 i (by omega) (by unfold hB; omega), o1 i (by omega) (by omega)]
    · rw [sv]; exact c2
    · rw [sv, hb']
      intro i hi2 j hj
      rw [c3 i hi2 j hj, o1 _ (by omega) (by omega)]
    · rw [sv, if_pos hn4]
      intro i hi2 i2 hi3 j hj
      have ki := hi1.1 i (by omega)
      have kn : hK C1 i ≠ hK C1 3 := fun z => by have := hi1.2 i 3 (by omega) (by decide) z; omega
      have kb := rr i (by omega)
      rw [hb', ← kb]
      rw [c1 _ (by unfold hB; omega) (by unfold hB; omega), o1 _ (by unfold hB; omega) (by unfold hB; omega)]
  · refine V_icmp_lt dX0_push_9 (fun _ => ?_) (fun z => absurd ((clt (by repeat (first | with_reducible rfl | with_reducible exact nlit | with_reducible apply nadd | with_reducible apply nmul | with_reducible apply nsub | with_reducible assumption | omega)) (by repeat (first | with_reducible rfl | with_reducible exact nlit | with_reducible apply nadd | with_reducible apply nmul | with_reducible apply nsub | with_reducible assumption | omega)) (by omega) (by omega)).mpr (by omega)) z)
    refine tail C n (by omega) hi h0 rfl (fun C' c1 c2 c3 => ?_)
    have km := hi.1 n (by omega)
    have e17' : C' 17 = C 17 := c1 17 (by decide) (Or.inl (by unfold hB; omega))
    have hb' : ∀ i, hB C' i = hB C i := fun i => by unfold hB hK; rw [e17']
    have sv : svN n = n + 1 := by unfold svN; rw [if_neg hn4]
    refine ⟨C', rfl, rfl, fun i hi2 => ?_, ?_, HiK_cg hi e17', ?_, ?_⟩
    · rw [c1 i (by omega) (by unfold hB; omega)]
    · rw [sv]; exact c2
    · rw [sv, hb', Nat.add_sub_cancel]
      exact c3
    · rw [sv, if_neg hn4]
      intro i hi2 i2 hi3 j hj
      have ki := hi.1 i (by omega)
      have kn : hK C i ≠ hK C n := fun z => by have := hi.2 i n (by omega) (by omega) z; omega
      rw [hb', Nat.add_zero]
      rw [c1 _ (by unfold hB; omega) (by unfold hB; omega)]
/-- what taking the newest back leaves -/
def Rpo (G : GT) (a : Nat) (C : CT) (n : Nat) : Option Value → Hp → Prop := fun r h' => ∃ C', r = some (.int 1) ∧ h' = B G a C' ∧ (∀ i, i ≠ 16 → 16 ≤ i → C' i = C i) ∧ C' 0 = C 0 ∧ C' 16 0 = nI (n - 1) ∧ BlE C' 1 C (hB C (n - 1))
theorem tX0_pop_0 (h0 : C 16 0 = 0) : Ct G l yX0_pop cX0_pop 3 (some .boolean) 4 0 0 sz [.ref (a + 16), .ref (a + 1)] (B G a C) (Rw G a (.int 0) C) := by
  refine Ct.of (own := RX0) (mn := "pop") (L0 := [some (.ref (a + 16)), some (.ref (a + 1)), none]) (by decide +kernel) rfl rfl rfl (Nat.le_of_ble_eq_true rfl) rfl ?_
  refine V_aload_n dX0_pop_0 rfl ?_
  refine V_bget dX0_pop_1 fX0_18 (by decide) rfl (by (try simp only [mset_s, mset_n, pk_us, pk_un, ne_eq, Nat.reduceEqDiff, Nat.reduceAdd, not_false_eq_true, not_true_eq_false]) <;> rfl) ?_
  rw [h0]
  refine V_iconst (v := 1) dX0_pop_4 (by decide) ?_
  refine V_isub dX0_pop_5 ?_
  refine V_istore_n dX0_pop_6 (by decide) (by dsimp only [List.set] <;> rfl) rfl ?_
  refine V_iload_n dX0_pop_7 rfl ?_
  refine V_if_lt dX0_pop_8 (fun _ => ?_) (fun z => absurd (by decide) z)
  refine V_iconst (v := 0) dX0_pop_29 (by decide) ?_
  refine V_zret dX0_pop_30 rfl (by first | rfl | exact bI_nar) rfl rfl ?_
  exact Rw_i rfl rfl
set_option maxHeartbeats 4000000 in
theorem tX0_pop {n : Nat} (hi : HiK C) (h0 : C 16 0 = nI n) (hn : n ≤ 4) (hn0 : 0 < n) (hop : C (hB C (n - 1)) 0 = 0 ∨ C (hB C (n - 1)) 0 = 1) : Ct G l yX0_pop cX0_pop 3 (some .boolean) 4 0 0 sz [.ref (a + 16), .ref (a + 1)] (B G a C) (Rpo G a C n) := by
  have km := hi.1 (n - 1) (by omega)
  have hb : hB C (n - 1) = 18 + 15 * (C 17 (n - 1)).toInt.toNat := rfl
  refine Ct.of (own := RX0) (mn := "pop") (L0 := [some (.ref (a + 16)), some (.ref (a + 1)), none]) (by decide +kernel) rfl rfl rfl (Nat.le_of_ble_eq_true rfl) rfl ?_
  refine V_aload_n dX0_pop_0 rfl ?_
  refine V_bget dX0_pop_1 fX0_18 (by decide) rfl (by (try simp only [mset_s, mset_n, pk_us, pk_un, ne_eq, Nat.reduceEqDiff, Nat.reduceAdd, not_false_eq_true, not_true_eq_false]) <;> rfl) ?_
  rw [h0]
  refine V_iconst (v := 1) dX0_pop_4 (by decide) ?_
  refine V_isub dX0_pop_5 ?_
  rw [show nI n - 1 = nI (n - 1) from by rw [show (1 : Int32) = nI 1 from rfl, pk_sub (by omega)]]
  refine V_istore_n dX0_pop_6 (by decide) (by dsimp only [List.set] <;> rfl) rfl ?_
  refine V_iload_n dX0_pop_7 rfl ?_
  refine V_if_lt dX0_pop_8 (fun z => absurd z (fun z => absurd ((clt (by repeat (first | with_reducible rfl | with_reducible exact nlit | with_reducible apply nadd | with_reducible apply nmul | with_reducible apply nsub | with_reducible assumption | omega)) (by repeat (first | with_reducible rfl | with_reducible exact nlit | with_reducible apply nadd | with_reducible apply nmul | with_reducible apply nsub | with_reducible assumption | omega)) (by omega) (by omega)).mp z) (by omega))) (fun _ => ?_)
  refine V_iload_n dX0_pop_11 rfl ?_
  refine V_aload_n dX0_pop_12 rfl ?_
  refine V_bget dX0_pop_13 fX0_11 (by decide) rfl (by (try simp only [mset_s, mset_n, pk_us, pk_un, ne_eq, Nat.reduceEqDiff, Nat.reduceAdd, not_false_eq_true, not_true_eq_false]) <;> rfl) ?_
  refine V_alens (v := 4) dX0_pop_16 (B_at (j := 17) (by decide) rfl) rfl ?_
  refine V_icmp_ge dX0_pop_17 (fun z => absurd z (fun z => absurd ((cle (by repeat (first | with_reducible rfl | with_reducible exact nlit | with_reducible apply nadd | with_reducible apply nmul | with_reducible apply nsub | with_reducible assumption | omega)) (by repeat (first | with_reducible rfl | with_reducible exact nlit | with_reducible apply nadd | with_reducible apply nmul | with_reducible apply nsub | with_reducible assumption | omega)) (by omega) (by omega)).mp z) (by omega))) (fun _ => ?_)
  refine V_aload_n dX0_pop_20 rfl ?_
  refine V_bget dX0_pop_21 fX0_11 (by decide) rfl (by (try simp only [mset_s, mset_n, pk_us, pk_un, ne_eq, Nat.reduceEqDiff, Nat.reduceAdd, not_false_eq_true, not_true_eq_false]) <;> rfl) ?_
  refine V_iload_n dX0_pop_24 rfl ?_
  refine V_baald dX0_pop_25 (by repeat (first | with_reducible rfl | with_reducible exact nlit | with_reducible apply nadd | with_reducible apply nmul | with_reducible apply nsub | with_reducible assumption | omega)) (by omega) ?_
  refine V_ifnonnull dX0_pop_26 ?_
  refine V_aload_n dX0_pop_31 rfl ?_
  refine V_aload_n dX0_pop_32 rfl ?_
  refine V_bget dX0_pop_33 fX0_11 (by decide) rfl (by (try simp only [mset_s, mset_n, pk_us, pk_un, ne_eq, Nat.reduceEqDiff, Nat.reduceAdd, not_false_eq_true, not_true_eq_false]) <;> rfl) ?_
  refine V_iload_n dX0_pop_36 rfl ?_
  refine V_baald dX0_pop_37 (by repeat (first | with_reducible rfl | with_reducible exact nlit | with_reducible apply nadd | with_reducible apply nmul | with_reducible apply nsub | with_reducible assumption | omega)) (by omega) ?_
  rw [← hb]
  refine V_callV dX0_pop_38 kX0_25 ykX4_copyFrom (B_at (by decide) rfl) rfl (tX4_copyFrom (s := 1) (s' := hB C (n - 1)) stk1 (stkH km) (by unfold hB; omega) hop) rfl (Nat.le_of_ble_eq_true rfl) ⟨by decide, by decide, by decide, by decide⟩ ?_
  intro r h' hq
  obtain ⟨C2, rfl, rfl, h3, h4⟩ := hq
  show V G l RX0 "pop" cX0_pop 3 (some .boolean) (rmd 4 0 0) E0 (Qm G (Rpo G a C n) sz 0 0) sz 0 0 41 [some (.ref (a + 16)), some (.ref (a + 1)), some (.int (nI (n - 1)))] [] (B G a C2)
  refine V_aload_n dX0_pop_41 rfl ?_
  refine V_iload_n dX0_pop_42 rfl ?_
  refine V_bputi (i0 := 0) dX0_pop_43 fX0_18 (by decide) rfl rfl rfl (Nat.le_of_ble_eq_true rfl) rfl ?_
  refine V_iconst (v := 1) dX0_pop_46 (by decide) ?_
  refine V_zret dX0_pop_47 rfl (by first | rfl | exact bI_nar) rfl rfl ?_
  refine ⟨_, rfl, rfl, fun i hi2 hi3 => ?_, ?_, ?_, ?_⟩
  · rw [mset_n hi2]; exact h3 i (Or.inr (by omega))
  · rw [mset_n (by decide)]; exact h3 0 (Or.inl (by decide))
  · rw [mset_s, pk_us]
  · intro i hi2 j hj
    rw [mset_n (by omega)]
    exact h4 i hi2 j hj
end CLS
