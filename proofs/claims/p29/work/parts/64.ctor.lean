/-! The constructors. -/
def stI (i : Nat) : Nat → Int32 := if i = 0 then upd (fun _ => 0) 4 (-5) else fun _ => 0
section CLS
variable {G : GT} {l : Launch} {sz a : Nat} {h : Hp} {f : Nat → va_E}
theorem tX1_init (hh : h (a + 101) = some (.inr (1, dfV1))) (e0 : f 101 = .inr (1, dfV1)) : Ct G l yX1_init cX1_init 1 none 1 0 0 sz [.ref (a + 101)] h (Rov h a 101 1 f) := by
  refine Ct.of (own := RX1) (mn := "<init>") (L0 := [some (.ref (a + 101))]) (by decide +kernel) rfl rfl rfl (Nat.le_of_ble_eq_true rfl) rfl ?_
  refine V_aload_n dX1_init_0 rfl ?_
  refine V_oinit dX1_init_1 (gm 179 (by decide +kernel) rfl) (gm 42 (by decide +kernel) rfl) (gm 43 (by decide +kernel) rfl) (Nat.le_of_ble_eq_true rfl) (Nat.le_of_ble_eq_true rfl) ?_
  refine V_vret dX1_init_4 rfl rfl rfl ?_
  refine Rov_i ?_
  have := NF_fin (h := h) (a := a) (m := 0) (M := 1) e0 rfl
  rw [← this]
  exact NF_0 hh
theorem tX2_init {j : Nat} (hh : h (a + j) = some (.inr (2, dfV2))) (hz : sz = a + (j + 1)) (e0 : f j = .inr (2, [.ref (a + (j + 1)), .int 0])) (e1 : f (j + 1) = iA G 30 (fun _ => 0)) : Ct G l yX2_init cX2_init 1 none 1 1 30 sz [.ref (a + j)] h (Rov h a j 2 f) := by
  have h0 := NF_0 (f := f) hh
  refine Ct.of (own := RX2) (mn := "<init>") (L0 := [some (.ref (a + j))]) (by decide +kernel) rfl rfl rfl (Nat.le_of_ble_eq_true rfl) rfl ?_
  refine V_hq h0 ?_
  unfold dfV2
  refine V_aload_n dX2_init_0 rfl ?_
  refine V_oinit dX2_init_1 (gm 55 (by decide +kernel) rfl) (gm 42 (by decide +kernel) rfl) (gm 43 (by decide +kernel) rfl) (Nat.le_of_ble_eq_true rfl) (Nat.le_of_ble_eq_true rfl) ?_
  refine V_aload_n dX2_init_4 rfl ?_
  refine V_bipush (v := 30) dX2_init_5 (by decide) ?_
  refine N_newi (q := j + 1) (M := 1) (N := 30) dX2_init_7 rfl (by decide) (Nat.le_of_ble_eq_true rfl) (Nat.le_of_ble_eq_true rfl) (Nat.le_of_ble_eq_true rfl) e1 (by omega) (by omega) rfl ?_
  refine N_putF dX2_init_9 rfl ckX2 (i := 0) (by decide) rfl rfl (gm 56 (by decide +kernel) rfl) rfl rfl (Nat.le_of_ble_eq_true rfl) (by dsimp only [List.set] <;> rfl) ?_
  refine V_vret dX2_init_12 rfl rfl rfl ?_
  exact Rov_i (NF_fin e0 rfl)
theorem tX3_init {j : Nat} (hh : h (a + j) = some (.inr (3, dfV3))) (hz : sz = a + (j + 1)) (e0 : f j = shE G a j 12 (fun _ => 0)) (e1 : f (j + 1) = iA G 72 (fun _ => 0)) (e2 : f (j + 2) = iA G 72 (fun _ => 0)) (e3 : f (j + 3) = iA G 72 (fun _ => 0)) (e4 : f (j + 4) = iA G 6 (fun _ => 0)) (e5 : f (j + 5) = iA G 6 (fun _ => 0)) : Ct G l yX3_init cX3_init 5 none 1 5 228 sz [.ref (a + j), .int 6, .int 12] h (Rov h a j 6 f) := by
  have h0 := NF_0 (f := f) hh
  refine Ct.of (own := RX3) (mn := "<init>") (L0 := [some (.ref (a + j)), some (.int 6), some (.int 12), none, none]) (by decide +kernel) rfl rfl rfl (Nat.le_of_ble_eq_true rfl) rfl ?_
  refine V_hq h0 ?_
  unfold dfV3
  refine V_aload_n dX3_init_0 rfl ?_
  refine V_oinit dX3_init_1 (gm 70 (by decide +kernel) rfl) (gm 42 (by decide +kernel) rfl) (gm 43 (by decide +kernel) rfl) (Nat.le_of_ble_eq_true rfl) (Nat.le_of_ble_eq_true rfl) ?_
  refine V_iconst (v := 0) dX3_init_4 (by decide) ?_
  refine V_iload_n dX3_init_5 rfl ?_
  refine V_max dX3_init_6 gmax_X3_7 gmaxS gmaxI gmaxC (Nat.le_of_ble_eq_true rfl) (Nat.le_of_ble_eq_true rfl) (Nat.le_of_ble_eq_true rfl) (Nat.le_of_ble_eq_true rfl) ?_
  refine V_toe (y := 6) (by decide) ?_
  refine V_istore_n dX3_init_9 (by decide) (by dsimp only [List.set] <;> rfl) rfl ?_
  refine V_aload_n dX3_init_10 rfl ?_
  refine V_iconst (v := 0) dX3_init_11 (by decide) ?_
  refine V_iload_n dX3_init_12 rfl ?_
  refine V_max dX3_init_13 gmax_X3_7 gmaxS gmaxI gmaxC (Nat.le_of_ble_eq_true rfl) (Nat.le_of_ble_eq_true rfl) (Nat.le_of_ble_eq_true rfl) (Nat.le_of_ble_eq_true rfl) ?_
  refine V_toe (y := 12) (by decide) ?_
  refine N_putF dX3_init_16 rfl ckX3 (i := 0) (by decide) rfl rfl (gm 74 (by decide +kernel) rfl) rfl rfl (Nat.le_of_ble_eq_true rfl) (by dsimp only [List.set] <;> rfl) ?_
  refine V_iconst (v := 0) dX3_init_19 (by decide) ?_
  refine V_iload_n dX3_init_20 rfl ?_
  refine V_aload_n dX3_init_21 rfl ?_
  refine V_get dX3_init_22 fX3_13 NF_at rfl ?_
  refine V_imul dX3_init_25 ?_
  refine V_max dX3_init_26 gmax_X3_7 gmaxS gmaxI gmaxC (Nat.le_of_ble_eq_true rfl) (Nat.le_of_ble_eq_true rfl) (Nat.le_of_ble_eq_true rfl) (Nat.le_of_ble_eq_true rfl) ?_
  refine V_toe (y := 72) (by decide) ?_
  refine V_istore dX3_init_29 (by decide) (by dsimp only [List.set] <;> rfl) rfl ?_
  refine V_aload_n dX3_init_31 rfl ?_
  refine V_iload dX3_init_32 rfl ?_
  refine N_newi (q := j + 1) (M := 1) (N := 72) dX3_init_34 rfl (by decide) (Nat.le_of_ble_eq_true rfl) (Nat.le_of_ble_eq_true rfl) (Nat.le_of_ble_eq_true rfl) e1 (by omega) (by omega) rfl ?_
  refine N_putF dX3_init_36 rfl ckX3 (i := 1) (by decide) rfl rfl (gm 75 (by decide +kernel) rfl) rfl rfl (Nat.le_of_ble_eq_true rfl) (by dsimp only [List.set] <;> rfl) ?_
  refine V_aload_n dX3_init_39 rfl ?_
  refine V_iload dX3_init_40 rfl ?_
  refine N_newi (q := j + 2) (M := 2) (N := 72) dX3_init_42 rfl (by decide) (Nat.le_of_ble_eq_true rfl) (Nat.le_of_ble_eq_true rfl) (Nat.le_of_ble_eq_true rfl) e2 (by omega) (by omega) rfl ?_
  refine N_putF dX3_init_44 rfl ckX3 (i := 2) (by decide) rfl rfl (gm 76 (by decide +kernel) rfl) rfl rfl (Nat.le_of_ble_eq_true rfl) (by dsimp only [List.set] <;> rfl) ?_
  refine V_aload_n dX3_init_47 rfl ?_
  refine V_iload dX3_init_48 rfl ?_
  refine N_newi (q := j + 3) (M := 3) (N := 72) dX3_init_50 rfl (by decide) (Nat.le_of_ble_eq_true rfl) (Nat.le_of_ble_eq_true rfl) (Nat.le_of_ble_eq_true rfl) e3 (by omega) (by omega) rfl ?_
  refine N_putF dX3_init_52 rfl ckX3 (i := 3) (by decide) rfl rfl (gm 77 (by decide +kernel) rfl) rfl rfl (Nat.le_of_ble_eq_true rfl) (by dsimp only [List.set] <;> rfl) ?_
  refine V_aload_n dX3_init_55 rfl ?_
  refine V_iload_n dX3_init_56 rfl ?_
  refine N_newi (q := j + 4) (M := 4) (N := 6) dX3_init_57 rfl (by decide) (Nat.le_of_ble_eq_true rfl) (Nat.le_of_ble_eq_true rfl) (Nat.le_of_ble_eq_true rfl) e4 (by omega) (by omega) rfl ?_
  refine N_putF dX3_init_59 rfl ckX3 (i := 4) (by decide) rfl rfl (gm 78 (by decide +kernel) rfl) rfl rfl (Nat.le_of_ble_eq_true rfl) (by dsimp only [List.set] <;> rfl) ?_
  refine V_aload_n dX3_init_62 rfl ?_
  refine V_iload_n dX3_init_63 rfl ?_
  refine N_newi (q := j + 5) (M := 5) (N := 6) dX3_init_64 rfl (by decide) (Nat.le_of_ble_eq_true rfl) (Nat.le_of_ble_eq_true rfl) (Nat.le_of_ble_eq_true rfl) e5 (by omega) (by omega) rfl ?_
  refine N_putF dX3_init_66 rfl ckX3 (i := 5) (by decide) rfl rfl (gm 79 (by decide +kernel) rfl) rfl rfl (Nat.le_of_ble_eq_true rfl) (by dsimp only [List.set] <;> rfl) ?_
  refine V_vret dX3_init_69 rfl rfl rfl ?_
  exact Rov_i (NF_fin e0 rfl)
theorem tX3_initT {j : Nat} (hh : h (a + j) = some (.inr (3, dfV3))) (hz : sz = a + (j + 1)) (e0 : f j = shE G a j 20 (fun _ => 0)) (e1 : f (j + 1) = iA G 400 (fun _ => 0)) (e2 : f (j + 2) = iA G 400 (fun _ => 0)) (e3 : f (j + 3) = iA G 400 (fun _ => 0)) (e4 : f (j + 4) = iA G 20 (fun _ => 0)) (e5 : f (j + 5) = iA G 20 (fun _ => 0)) : Ct G l yX3_init cX3_init 5 none 1 5 1240 sz [.ref (a + j), .int 20, .int 20] h (Rov h a j 6 f) := by
  have h0 := NF_0 (f := f) hh
  refine Ct.of (own := RX3) (mn := "<init>") (L0 := [some (.ref (a + j)), some (.int 20), some (.int 20), none, none]) (by decide +kernel) rfl rfl rfl (Nat.le_of_ble_eq_true rfl) rfl ?_
  refine V_hq h0 ?_
  unfold dfV3
  refine V_aload_n dX3_init_0 rfl ?_
  refine V_oinit dX3_init_1 (gm 70 (by decide +kernel) rfl) (gm 42 (by decide +kernel) rfl) (gm 43 (by decide +kernel) rfl) (Nat.le_of_ble_eq_true rfl) (Nat.le_of_ble_eq_true rfl) ?_
  refine V_iconst (v := 0) dX3_init_4 (by decide) ?_
  refine V_iload_n dX3_init_5 rfl ?_
  refine V_max dX3_init_6 gmax_X3_7 gmaxS gmaxI gmaxC (Nat.le_of_ble_eq_true rfl) (Nat.le_of_ble_eq_true rfl) (Nat.le_of_ble_eq_true rfl) (Nat.le_of_ble_eq_true rfl) ?_
  refine V_toe (y := 20) (by decide) ?_
  refine V_istore_n dX3_init_9 (by decide) (by dsimp only [List.set] <;> rfl) rfl ?_
  refine V_aload_n dX3_init_10 rfl ?_
  refine V_iconst (v := 0) dX3_init_11 (by decide) ?_
  refine V_iload_n dX3_init_12 rfl ?_
  refine V_max dX3_init_13 gmax_X3_7 gmaxS gmaxI gmaxC (Nat.le_of_ble_eq_true rfl) (Nat.le_of_ble_eq_true rfl) (Nat.le_of_ble_eq_true rfl) (Nat.le_of_ble_eq_true rfl) ?_
  refine V_toe (y := 20) (by decide) ?_
  refine N_putF dX3_init_16 rfl ckX3 (i := 0) (by decide) rfl rfl (gm 74 (by decide +kernel) rfl) rfl rfl (Nat.le_of_ble_eq_true rfl) (by dsimp only [List.set] <;> rfl) ?_
  refine V_iconst (v := 0) dX3_init_19 (by decide) ?_
  refine V_iload_n dX3_init_20 rfl ?_
  refine V_aload_n dX3_init_21 rfl ?_
  refine V_get dX3_init_22 fX3_13 NF_at rfl ?_
  refine V_imul dX3_init_25 ?_
  refine V_max dX3_init_26 gmax_X3_7 gmaxS gmaxI gmaxC (Nat.le_of_ble_eq_true rfl) (Nat.le_of_ble_eq_true rfl) (Nat.le_of_ble_eq_true rfl) (Nat.le_of_ble_eq_true rfl) ?_
  refine V_toe (y := 400) (by decide) ?_
  refine V_istore dX3_init_29 (by decide) (by dsimp only [List.set] <;> rfl) rfl ?_
  refine V_aload_n dX3_init_31 rfl ?_
  refine V_iload dX3_init_32 rfl ?_
  refine N_newi (q := j + 1) (M := 1) (N := 400) dX3_init_34 rfl (by decide) (Nat.le_of_ble_eq_true rfl) (Nat.le_of_ble_eq_true rfl) (Nat.le_of_ble_eq_true rfl) e1 (by omega) (by omega) rfl ?_
  refine N_putF dX3_init_36 rfl ckX3 (i := 1) (by decide) rfl rfl (gm 75 (by decide +kernel) rfl) rfl rfl (Nat.le_of_ble_eq_true rfl) (by dsimp only [List.set] <;> rfl) ?_
  refine V_aload_n dX3_init_39 rfl ?_
  refine V_iload dX3_init_40 rfl ?_
  refine N_newi (q := j + 2) (M := 2) (N := 400) dX3_init_42 rfl (by decide) (Nat.le_of_ble_eq_true rfl) (Nat.le_of_ble_eq_true rfl) (Nat.le_of_ble_eq_true rfl) e2 (by omega) (by omega) rfl ?_
  refine N_putF dX3_init_44 rfl ckX3 (i := 2) (by decide) rfl rfl (gm 76 (by decide +kernel) rfl) rfl rfl (Nat.le_of_ble_eq_true rfl) (by dsimp only [List.set] <;> rfl) ?_
  refine V_aload_n dX3_init_47 rfl ?_
  refine V_iload dX3_init_48 rfl ?_
  refine N_newi (q := j + 3) (M := 3) (N := 400) dX3_init_50 rfl (by decide) (Nat.le_of_ble_eq_true rfl) (Nat.le_of_ble_eq_true rfl) (Nat.le_of_ble_eq_true rfl) e3 (by omega) (by omega) rfl ?_
  refine N_putF dX3_init_52 rfl ckX3 (i := 3) (by decide) rfl rfl (gm 77 (by decide +kernel) rfl) rfl rfl (Nat.le_of_ble_eq_true rfl) (by dsimp only [List.set] <;> rfl) ?_
  refine V_aload_n dX3_init_55 rfl ?_
  refine V_iload_n dX3_init_56 rfl ?_
  refine N_newi (q := j + 4) (M := 4) (N := 20) dX3_init_57 rfl (by decide) (Nat.le_of_ble_eq_true rfl) (Nat.le_of_ble_eq_true rfl) (Nat.le_of_ble_eq_true rfl) e4 (by omega) (by omega) rfl ?_
  refine N_putF dX3_init_59 rfl ckX3 (i := 4) (by decide) rfl rfl (gm 78 (by decide +kernel) rfl) rfl rfl (Nat.le_of_ble_eq_true rfl) (by dsimp only [List.set] <;> rfl) ?_
  refine V_aload_n dX3_init_62 rfl ?_
  refine V_iload_n dX3_init_63 rfl ?_
  refine N_newi (q := j + 5) (M := 5) (N := 20) dX3_init_64 rfl (by decide) (Nat.le_of_ble_eq_true rfl) (Nat.le_of_ble_eq_true rfl) (Nat.le_of_ble_eq_true rfl) e5 (by omega) (by omega) rfl ?_
  refine N_putF dX3_init_66 rfl ckX3 (i := 5) (by decide) rfl rfl (gm 79 (by decide +kernel) rfl) rfl rfl (Nat.le_of_ble_eq_true rfl) (by dsimp only [List.set] <;> rfl) ?_
  refine V_vret dX3_init_69 rfl rfl rfl ?_
  exact Rov_i (NF_fin e0 rfl)
set_option maxHeartbeats 4000000 in
theorem tX4_init {s : Nat} (hh : h (a + s) = some (.inr (4, dfV4))) (hz : sz = a + (s + 1)) (hf : ∀ i, i < 15 → f (s + i) = stE G a s i (stI i)) : Ct G l yX4_init cX4_init 1 none 2 14 502 sz [.ref (a + s)] h (Rov h a s 15 f) := by
  have h0 := NF_0 (f := f) hh
  refine Ct.of (own := RX4) (mn := "<init>") (L0 := [some (.ref (a + s))]) (by decide +kernel) rfl rfl rfl (Nat.le_of_ble_eq_true rfl) rfl ?_
  refine V_hq h0 ?_
  unfold dfV4
  refine V_aload_n dX4_init_0 rfl ?_
  refine V_oinit dX4_init_1 (gm 49 (by decide +kernel) rfl) (gm 42 (by decide +kernel) rfl) (gm 43 (by decide +kernel) rfl) (Nat.le_of_ble_eq_true rfl) (Nat.le_of_ble_eq_true rfl) ?_
  refine V_aload_n dX4_init_4 rfl ?_
  refine N_new (a := a) (q := s + 1) (fs := dfV2) dX4_init_5 ckX2 (gm 50 (by decide +kernel) rfl) (gm 51 (by decide +kernel) rfl) (gm 24 (by decide +kernel) rfl) dfV2_ok (Nat.le_of_ble_eq_true rfl) (Nat.le_of_ble_eq_true rfl) (by omega) ?_
  refine V_dup dX4_init_8 rfl ?_
  refine N_callI (q := s + 1) (M := 2) dX4_init_9 kX4_11 ykX2_init (tX2_init (j := s + 1) hset_s (by omega) (hf 1 (by decide)) (hf 2 (by decide))) rfl (Nat.le_of_ble_eq_true rfl) ⟨by decide, by decide, (Nat.le_of_ble_eq_true rfl), (Nat.le_of_ble_eq_true rfl)⟩ (by omega) rfl ?_
  refine N_putF dX4_init_12 rfl ckX4 (i := 0) (by decide) rfl rfl (gm 99 (by decide +kernel) rfl) rfl rfl (Nat.le_of_ble_eq_true rfl) (by dsimp only [List.set] <;> rfl) ?_
  refine V_aload_n dX4_init_15 rfl ?_
  refine N_new (a := a) (q := s + 3) (fs := dfV3) dX4_init_16 ckX3 (gm 65 (by decide +kernel) rfl) (gm 66 (by decide +kernel) rfl) (gm 25 (by decide +kernel) rfl) dfV3_ok (Nat.le_of_ble_eq_true rfl) (Nat.le_of_ble_eq_true rfl) (by omega) ?_
  refine V_dup dX4_init_19 rfl ?_
  refine V_bipush (v := 6) dX4_init_20 (by decide) ?_
  refine V_bipush (v := 12) dX4_init_22 (by decide) ?_
  refine N_callI (q := s + 3) (M := 8) dX4_init_24 kX4_20 ykX3_init (tX3_init (j := s + 3) hset_s (by omega) (hf 3 (by decide)) (hf 4 (by decide)) (hf 5 (by decide)) (hf 6 (by decide)) (hf 7 (by decide)) (hf 8 (by decide))) rfl (Nat.le_of_ble_eq_true rfl) ⟨by decide, by decide, (Nat.le_of_ble_eq_true rfl), (Nat.le_of_ble_eq_true rfl)⟩ (by omega) rfl ?_
  refine N_putF dX4_init_27 rfl ckX4 (i := 1) (by decide) rfl rfl (gm 101 (by decide +kernel) rfl) rfl rfl (Nat.le_of_ble_eq_true rfl) (by dsimp only [List.set] <;> rfl) ?_
  refine V_aload_n dX4_init_30 rfl ?_
  refine N_new (a := a) (q := s + 9) (fs := dfV3) dX4_init_31 ckX3 (gm 65 (by decide +kernel) rfl) (gm 66 (by decide +kernel) rfl) (gm 25 (by decide +kernel) rfl) dfV3_ok (Nat.le_of_ble_eq_true rfl) (Nat.le_of_ble_eq_true rfl) (by omega) ?_
  refine V_dup dX4_init_34 rfl ?_
  refine V_bipush (v := 6) dX4_init_35 (by decide) ?_
  refine V_bipush (v := 12) dX4_init_37 (by decide) ?_
  refine N_callI (q := s + 9) (M := 14) dX4_init_39 kX4_20 ykX3_init (tX3_init (j := s + 9) hset_s (by omega) (hf 9 (by decide)) (hf 10 (by decide)) (hf 11 (by decide)) (hf 12 (by decide)) (hf 13 (by decide)) (hf 14 (by decide))) rfl (Nat.le_of_ble_eq_true rfl) ⟨by decide, by decide, (Nat.le_of_ble_eq_true rfl), (Nat.le_of_ble_eq_true rfl)⟩ (by omega) rfl ?_
  refine N_putF dX4_init_42 rfl ckX4 (i := 2) (by decide) rfl rfl (gm 103 (by decide +kernel) rfl) rfl rfl (Nat.le_of_ble_eq_true rfl) (by dsimp only [List.set] <;> rfl) ?_
  refine V_aload_n dX4_init_45 rfl ?_
  refine V_bipush (v := (-5)) dX4_init_46 (by decide) ?_
  refine N_put dX4_init_48 fX4_30 rfl rfl (Nat.le_of_ble_eq_true rfl) (by dsimp only [List.set] <;> rfl) ?_
  refine V_vret dX4_init_51 rfl rfl rfl ?_
  exact Rov_i (NF_fin (hf 0 (by decide)) rfl)
set_option maxHeartbeats 4000000 in
theorem tX5_init (hh : h (a + 93) = some (.inr (5, dfV5))) (hz : sz = a + 94) (e0 : f 93 = .inr (5, [.ref (a + 94), .int 0, .int 0, .ref (a + 95)])) (e1 : f 94 = chA G 60 (fun _ => 0)) (e2 : f 95 = shE G a 95 20 (fun _ => 0)) (e3 : f 96 = iA G 400 (fun _ => 0)) (e4 : f 97 = iA G 400 (fun _ => 0)) (e5 : f 98 = iA G 400 (fun _ => 0)) (e6 : f 99 = iA G 20 (fun _ => 0)) (e7 : f 100 = iA G 20 (fun _ => 0)) : Ct G l yX5_init cX5_init 1 none 2 7 1307 sz [.ref (a + 93)] h (Rov h a 93 8 f) := by
  have h0 := NF_0 (f := f) hh
  refine Ct.of (own := RX5) (mn := "<init>") (L0 := [some (.ref (a + 93))]) (by decide +kernel) rfl rfl rfl (Nat.le_of_ble_eq_true rfl) rfl ?_
  refine V_hq h0 ?_
  unfold dfV5
  refine V_aload_n dX5_init_0 rfl ?_
  refine V_oinit dX5_init_1 (gm 154 (by decide +kernel) rfl) (gm 42 (by decide +kernel) rfl) (gm 43 (by decide +kernel) rfl) (Nat.le_of_ble_eq_true rfl) (Nat.le_of_ble_eq_true rfl) ?_
  refine V_aload_n dX5_init_4 rfl ?_
  refine V_bipush (v := 60) dX5_init_5 (by decide) ?_
  refine N_newc (q := 94) (M := 1) (N := 60) dX5_init_7 rfl (by decide) (Nat.le_of_ble_eq_true rfl) (Nat.le_of_ble_eq_true rfl) (Nat.le_of_ble_eq_true rfl) e1 (by omega) (by omega) rfl ?_
  refine N_putF dX5_init_9 rfl ckX5 (i := 0) (by decide) rfl rfl (gm 157 (by decide +kernel) rfl) rfl rfl (Nat.le_of_ble_eq_true rfl) (by dsimp only [List.set] <;> rfl) ?_
  refine V_aload_n dX5_init_12 rfl ?_
  refine N_new (a := a) (q := 95) (fs := dfV3) dX5_init_13 ckX3 (gm 155 (by decide +kernel) rfl) (gm 66 (by decide +kernel) rfl) (gm 25 (by decide +kernel) rfl) dfV3_ok (Nat.le_of_ble_eq_true rfl) (Nat.le_of_ble_eq_true rfl) (by omega) ?_
  refine V_dup dX5_init_16 rfl ?_
  refine V_bipush (v := 20) dX5_init_17 (by decide) ?_
  refine V_bipush (v := 20) dX5_init_19 (by decide) ?_
  refine N_callI (q := 95) (M := 7) dX5_init_21 kX5_17 ykX3_init (tX3_initT (j := 95) hset_s (by omega) e2 e3 e4 e5 e6 e7) rfl (Nat.le_of_ble_eq_true rfl) ⟨by decide, by decide, (Nat.le_of_ble_eq_true rfl), (Nat.le_of_ble_eq_true rfl)⟩ (by omega) rfl ?_
  refine N_putF dX5_init_24 rfl ckX5 (i := 3) (by decide) rfl rfl (gm 162 (by decide +kernel) rfl) rfl rfl (Nat.le_of_ble_eq_true rfl) (by dsimp only [List.set] <;> rfl) ?_
  refine V_vret dX5_init_27 rfl rfl rfl ?_
  exact Rov_i (NF_fin e0 rfl)
end CLS
