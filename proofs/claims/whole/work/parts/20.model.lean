/-! TryLoopsModel: its small methods. -/
set_option maxHeartbeats 4000000 in
theorem tX7_in {G : GT} {l : Launch} {sz : Nat} {h : Hp} (v lo hi : Int32) : Ct G l yX7_in cX7_in 3 (some .boolean) 0 0 0 sz [.int v, .int lo, .int hi] h (Rd (.int (bI (lo ≤ v ∧ v ≤ hi))) h) := by
  refine Ct.of (own := RX7) (mn := "in") (L0 := [some (.int v), some (.int lo), some (.int hi)]) (by decide +kernel) rfl rfl rfl (Nat.le_of_ble_eq_true rfl) rfl ?_
  refine V_iload_n dX7_in_0 rfl ?_
  refine V_iload_n dX7_in_1 rfl ?_
  refine V_icmp_lt dX7_in_2 (fun c2 => ?_) (fun c2 => ?_)
  · refine V_iconst (v := 0) dX7_in_14 (by decide) ?_
    refine V_zret dX7_in_15 rfl (by first | rfl | exact bI_nar) rfl rfl ?_
    exact Rd_i (bI_f (fun z => by rw [i_le, i_le] at z; rw [i_lt] at c2; omega)).symm
  · refine V_iload_n dX7_in_5 rfl ?_
    refine V_iload_n dX7_in_6 rfl ?_
    refine V_icmp_gt dX7_in_7 (fun c7 => ?_) (fun c7 => ?_)
    · refine V_iconst (v := 0) dX7_in_14 (by decide) ?_
      refine V_zret dX7_in_15 rfl (by first | rfl | exact bI_nar) rfl rfl ?_
      exact Rd_i (bI_f (fun z => by rw [i_le, i_le] at z; rw [i_lt] at c7; omega)).symm
    · refine V_iconst (v := 1) dX7_in_10 (by decide) ?_
      refine V_goto dX7_in_11 ?_
      refine V_zret dX7_in_15 rfl (by first | rfl | exact bI_nar) rfl rfl ?_
      exact Rd_i (bI_t (by rw [i_le, i_le]; rw [i_lt] at c2 c7; omega)).symm
