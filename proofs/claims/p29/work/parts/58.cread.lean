/-! Text: at the end, read. -/
section CLS
variable {G : GT} {l : Launch} {sz a : Nat} {C : CT}
theorem tX5_readStep_e {n p : Nat} (hs : Bool) (hch : chOK C) (hn : C 93 0 = nI n) (hn60 : n ≤ 60) (hp : C 93 1 = nI p) (hpn : p = n) : Ct G l yX5_readStep cX5_readStep 7 (some .boolean) 4 0 0 sz [.ref (a + 93), .int (bI (hs = true))] (B G a C) (Rw G a (.int 0) C) := by
  have e0 : chC C n p = 0 := by show (if p < n then C 94 p else 0) = 0; rw [if_neg (by omega)]
  refine Ct.of (own := RX5) (mn := "readStep") (L0 := [some (.ref (a + 93)), some (.int (bI (hs = true))), none, none, none, none, none]) (by decide +kernel) rfl rfl rfl (Nat.le_of_ble_eq_true rfl) rfl ?_
  refine V_ldcS dX5_readStep_0 rfl ?_
  refine V_aload_n dX5_readStep_2 rfl ?_
  refine V_callVw dX5_readStep_3 kX5_45 ykX5_next (by decide) rfl rfl (tX5_next hch hn hn60 hp (by omega)) rfl (Nat.le_of_ble_eq_true rfl) ⟨by decide, by decide, by decide, by decide⟩ ?_
  rw [e0]
  refine V_callT dX5_readStep_6 kX5_70 ykJ0_indexOf_0f7a4 rfl (tJ0_indexOf _) rfl (Nat.le_of_ble_eq_true rfl) ⟨by decide, by decide, by decide, by decide⟩ ?_
  rw [show vbR 0 = -1 from rfl]
  refine V_istore_n dX5_readStep_9 (by decide) (by dsimp only [List.set] <;> rfl) rfl ?_
  refine V_iload_n dX5_readStep_10 rfl ?_
  refine V_if_ge dX5_readStep_11 (fun z => absurd z (by decide)) (fun _ => ?_)
  refine V_iconst (v := 0) dX5_readStep_14 (by decide) ?_
  refine V_zret dX5_readStep_15 rfl (by first | rfl | exact bI_nar) rfl rfl ?_
  exact Rw_i rfl rfl
theorem tX5_readItem_e {n p : Nat} (hch : chOK C) (hn : C 93 0 = nI n) (hn60 : n ≤ 60) (hp : C 93 1 = nI p) (hpn : p = n) (ht : C 95 0 = nI 20) : Ct G l yX5_readItem cX5_readItem 2 (some .boolean) 6 0 0 sz [.ref (a + 93)] (B G a C) (Rw G a (.int 0) C) := by
  have e0 : chC C n p = 0 := by show (if p < n then C 94 p else 0) = 0; rw [if_neg (by omega)]
  refine Ct.of (own := RX5) (mn := "readItem") (L0 := [some (.ref (a + 93)), none]) (by decide +kernel) rfl rfl rfl (Nat.le_of_ble_eq_true rfl) rfl ?_
  refine V_aload_n dX5_readItem_0 rfl ?_
  refine V_bget dX5_readItem_1 fX5_20 (by decide) rfl (by (try simp only [mset_s, mset_n, pk_us, pk_un, ne_eq, Nat.reduceEqDiff, Nat.reduceAdd, not_false_eq_true, not_true_eq_false]) <;> rfl) ?_
  refine V_callVu dX5_readItem_4 kX5_42 ykX3_emptyNext (by decide) rfl rfl (tX3_emptyNext (q := 95) (W := 20) (N := 20) (cnt := 20) shkT ht (by omega)) rfl (Nat.le_of_ble_eq_true rfl) ⟨by decide, by decide, by decide, by decide⟩ ?_
  rw [if_neg (by decide)]
  have st := tX5_readStep_e (G := G) (l := l) (sz := sz + 0) (a := a) (C := C) false hch hn hn60 hp hpn
  rw [show bI (false = true) = 0 from rfl] at st
  refine V_iconst (v := 0) dX5_readItem_7 (by decide) ?_
  refine V_istore_n dX5_readItem_8 (by decide) (by dsimp only [List.set] <;> rfl) rfl ?_
  refine V_aload_n dX5_readItem_9 rfl ?_
  refine V_callVw dX5_readItem_10 kX5_45 ykX5_next (by decide) rfl rfl (tX5_next hch hn hn60 hp (by omega)) rfl (Nat.le_of_ble_eq_true rfl) ⟨by decide, by decide, by decide, by decide⟩ ?_
  refine V_callSw dX5_readItem_13 kX5_49 ykX5_digitOf (tX5_digitOf _) rfl (Nat.le_of_ble_eq_true rfl) ⟨by decide, by decide, by decide, by decide⟩ ?_
  rw [e0, if_neg (show ¬ isD 0 by decide)]
  refine V_if_ge dX5_readItem_16 (fun z => absurd z (show ¬ (0 : Int32) ≤ -1 by decide)) (fun _ => ?_)
  refine V_aload_n dX5_readItem_19 rfl ?_
  refine V_iconst (v := 0) dX5_readItem_20 (by decide) ?_
  refine V_callVw dX5_readItem_21 kX5_53 ykX5_readStep (by decide) rfl rfl st rfl (Nat.le_of_ble_eq_true rfl) ⟨by decide, by decide, by decide, by decide⟩ ?_
  refine V_if_ne dX5_readItem_24 (fun z => absurd z (by decide)) (fun _ => ?_)
  refine V_iconst (v := 0) dX5_readItem_27 (by decide) ?_
  refine V_zret dX5_readItem_28 rfl (by first | rfl | exact bI_nar) rfl rfl ?_
  exact Rw_i rfl rfl
end CLS
