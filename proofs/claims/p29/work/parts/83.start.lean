/-! The law's start: the constructor, what a new object refuses, the first snapshot; then the loop. -/
/-- the numbers of the world behind the constructor -/
def C00 : CT := fun j => if j = 1 then upd (fun _ => 0) 4 (-5) else if j = 18 then upd (fun _ => 0) 4 (-5) else if j = 33 then upd (fun _ => 0) 4 (-5) else if j = 48 then upd (fun _ => 0) 4 (-5) else if j = 63 then upd (fun _ => 0) 4 (-5) else if j = 78 then upd (fun _ => 0) 4 (-5) else if j = 17 then nI else fun _ => 0
theorem ov_in {h : Hp} {a j m q : Nat} {f : Nat → va_E} (h1 : a + j ≤ q) (h2 : q < a + j + m) : ov h a j m f q = some (f (q - a)) := if_pos ⟨h1, h2⟩
theorem ov_out {h : Hp} {a j m q : Nat} {f : Nat → va_E} (h1 : ¬ (a + j ≤ q ∧ q < a + j + m)) : ov h a j m f q = h q := if_neg h1
def K00 (G : GT) (a : Nat) : Nat → va_E := fun j => kE G a j (C00 j)
theorem B_new {G : GT} {a : Nat} {d6 : va_E} : ov (hset (fun _ => none) (a + 0) d6) a 0 105 (K00 G a) = B G a C00 := by
  funext q
  unfold B
  by_cases h3 : a + 0 ≤ q ∧ q < a + 0 + 105
  · rw [ov_in h3.1 h3.2, if_pos (by omega)]
    rfl
  · rw [ov_out h3, hset_n (by omega), if_neg (by omega)]
theorem JW_0 : JW C00 0 := by
  refine ⟨by decide, ⟨fun i hi => ?_, fun i j hi hj h => ?_⟩, rfl, fun i hi => absurd hi (Nat.not_lt_zero i), Or.inl rfl, rfl, fun j => rfl⟩
  · show (nI i).toInt.toNat < 4
    rw [nI_toInt (by omega)]
    omega
  · have h' : (nI i).toInt.toNat = (nI j).toInt.toNat := h
    rw [nI_toInt (by omega), nI_toInt (by omega)] at h'
    omega
theorem IV_0 : Inv (bk C00 1) 0 0 0 0 (fun _ => 0) (fun _ => 0) (fun _ => 0) :=
  ⟨⟨rfl, by decide, fun j _ => ⟨0, by decide, rfl⟩⟩, ⟨rfl, by decide, rfl, Or.inl rfl, fun i hi => absurd hi (Nat.not_lt_zero i), fun i hi => absurd hi (Nat.not_lt_zero i)⟩, rfl, by decide, fun i hi => absurd hi (Nat.not_lt_zero i)⟩
section LAWS
variable {G : GT} {l : Launch} {mn : String} {sz k n a b L : Nat} {xs : Nat → Int32}
set_option maxHeartbeats 4000000 in
theorem law_new (hL : L ≤ 260) (hk : k ≤ 600000) (hn : n ≤ 7302250) : V G l RL mn cL_law 16 ret room_1 (EL b L xs) QL sz k n 8 [some (.ref b), some (.ref a), none, none, none, none, none, none, none, none, none, none, none, none, none, none] [] (B G a C00) := by
  have hJ := JW_0
  have hI := IV_0
  have hD : SC C00 C00 := SC.rf
  refine V_aload_n dL_law_8 rfl ?_
  refine V_rq dL_law_9 kL_106 ykX6_undo rfl (q_undo_0 rfl hD) rfl (Nat.le_of_ble_eq_true rfl) ⟨by decide, by decide, hk, hn⟩ (fun D hD => ?_)
  refine V_bipush (v := (-5)) dL_law_12 (by decide) ?_
  refine V_icmp_ne dL_law_14 (fun z => absurd z (fun z => z rfl)) (fun _ => ?_)
  refine V_aload_n dL_law_17 rfl ?_
  refine V_rq dL_law_18 kL_109 ykX6_restore rfl (q_restore_o (by rw [hD.lo (by decide)]; rfl) hD) rfl (Nat.le_of_ble_eq_true rfl) ⟨by decide, by decide, hk, hn⟩ (fun D hD => ?_)
  refine V_bipush (v := (-5)) dL_law_21 (by decide) ?_
  refine V_icmp_ne dL_law_23 (fun z => absurd z (fun z => z rfl)) (fun _ => ?_)
  refine V_aload_n dL_law_26 rfl ?_
  refine V_bipush (v := 8) dL_law_27 (by decide) ?_
  refine V_rq dL_law_29 kL_20 ykX6_total rfl (Rq_e (show C00 1 4 = -5 from rfl) (q_tot8 hI hD)) rfl (Nat.le_of_ble_eq_true rfl) ⟨by decide, by decide, hk, hn⟩ (fun D hD => ?_)
  refine V_bipush (v := (-5)) dL_law_32 (by decide) ?_
  refine V_icmp_ne dL_law_34 (fun z => absurd z (fun z => z rfl)) (fun _ => ?_)
  refine V_aload_n dL_law_37 rfl ?_
  refine V_iconst (v := 0) dL_law_38 (by decide) ?_
  refine V_rqS dL_law_39 kL_112 ykL_refuses (tL_refuses (X := 0) (by decide) hJ hI hD) rfl (Nat.le_of_ble_eq_true rfl) ⟨by decide, by decide, hk, hn⟩ (fun D hD => ?_)
  refine V_if_eq dL_law_42 (fun z => absurd z (by decide)) (fun _ => ?_)
  refine V_aload_n dL_law_45 rfl ?_
  refine V_iconst (v := 1) dL_law_46 (by decide) ?_
  refine V_rqS dL_law_47 kL_112 ykL_refuses (tL_refuses (X := 1) (by decide) hJ hI hD) rfl (Nat.le_of_ble_eq_true rfl) ⟨by decide, by decide, hk, hn⟩ (fun D hD => ?_)
  refine V_if_eq dL_law_50 (fun z => absurd z (by decide)) (fun _ => ?_)
  refine V_aload_n dL_law_53 rfl ?_
  refine V_rm dL_law_54 kL_115 ykX6_keep rfl (m_keep hJ hI hD) rfl (Nat.le_of_ble_eq_true rfl) ⟨by decide, by decide, hk, hn⟩ (fun D hP => ?_)
  obtain ⟨hJ3, R1, R2, R3⟩ := hP
  have hI3 := Inv_cg R1 hI
  obtain ⟨E, hE⟩ : ∃ E, E = D := ⟨_, rfl⟩
  rw [← hE] at hJ3 R1 R2 R3 hI3
  rw [← hE]
  have hD : SC E E := SC.rf
  refine V_if_ne dL_law_57 (fun z => absurd z (fun z => z rfl)) (fun _ => ?_)
  refine V_iconst (v := 1) dL_law_60 (by decide) ?_
  refine V_goto dL_law_61 ?_
  refine V_istore_n dL_law_65 (by decide) (by dsimp only [List.set] <;> rfl) rfl ?_
  refine V_aload_n dL_law_66 rfl ?_
  refine V_callS dL_law_67 kL_91 ykL_seen (tL_seen hI3 hD) rfl (Nat.le_of_ble_eq_true rfl) ⟨by decide, by decide, hk, hn⟩ (fun r h' q => ?_)
  obtain ⟨D, rfl, rfl, hD⟩ := q
  refine V_lstore_n dL_law_70 (by decide) (by dsimp only [List.set] <;> rfl) rfl ?_
  refine V_iconst (v := 0) dL_law_71 (by decide) ?_
  refine V_istore dL_law_72 (by decide) (by dsimp only [List.set] <;> rfl) rfl ?_
  refine V_iconst (v := 0) dL_law_74 (by decide) ?_
  refine V_istore dL_law_75 (by decide) (by dsimp only [List.set] <;> rfl) rfl ?_
  refine lw_loop hL hk hn 70 0 rfl 0 0 0 0 0 _ _ _ E D _ _ _ _ _ _ _ _ _ _ _ hJ3 hI3 ⟨R3, 0, 0, 0, 0, _, _, _, Inv_cg R2 hI, ?_, rfl⟩ hD
  rw [seenF_cg R1 hI]
  exact (seenF_cg (R2.tr shC_bk) hI).symm
set_option maxHeartbeats 4000000 in
theorem law_start (hL : L ≤ 260) : V G l RL mn cL_law 16 ret room_1 (EL b L xs) QL sz 0 0 0 [some (.ref b), none, none, none, none, none, none, none, none, none, none, none, none, none, none, none] [] (fun _ => none) := by
  refine N_new (a := sz) (q := 0) (fs := dfV6) dL_law_0 ckX6 (gm 36 (by decide +kernel) rfl) (gm 37 (by decide +kernel) rfl) (gm 22 (by decide +kernel) rfl) dfV6_ok (Nat.le_of_ble_eq_true rfl) (Nat.le_of_ble_eq_true rfl) rfl ?_
  refine V_dup dL_law_3 rfl ?_
  refine V_callI dL_law_4 kL_105 ykX6_init (tX6_init (a := sz) (f := K00 G sz) (g := fun i => some (sz + (18 + 15 * (C00 17 i).toInt.toNat))) hset_s (by omega) rfl (lt15 rfl rfl rfl rfl rfl rfl rfl rfl rfl rfl rfl rfl rfl rfl rfl) (lt15 rfl rfl rfl rfl rfl rfl rfl rfl rfl rfl rfl rfl rfl rfl rfl) rfl rfl (fun i hi => ?_) (fun k hk => ?_) rfl rfl rfl rfl rfl rfl rfl rfl rfl rfl rfl rfl) rfl (Nat.le_of_ble_eq_true rfl) ⟨by decide, by decide, (Nat.le_of_ble_eq_true rfl), (Nat.le_of_ble_eq_true rfl)⟩ (fun r h' q => ?_)
  · show some (sz + (18 + 15 * (nI i).toInt.toNat)) = _
    rw [nI_toInt (by omega)]
    rfl
  · rcases (show k = 0 ∨ k = 1 ∨ k = 2 ∨ k = 3 by omega) with z | z | z | z <;> subst z
    · exact (lt15 rfl rfl rfl rfl rfl rfl rfl rfl rfl rfl rfl rfl rfl rfl rfl)
    · exact (lt15 rfl rfl rfl rfl rfl rfl rfl rfl rfl rfl rfl rfl rfl rfl rfl)
    · exact (lt15 rfl rfl rfl rfl rfl rfl rfl rfl rfl rfl rfl rfl rfl rfl rfl)
    · exact (lt15 rfl rfl rfl rfl rfl rfl rfl rfl rfl rfl rfl rfl rfl rfl rfl)
  obtain ⟨rfl, rfl⟩ := q
  refine V_astore_n dL_law_7 (by decide) (by dsimp only [List.set] <;> rfl) rfl ?_
  refine V_hq B_new ?_
  exact law_new (a := sz) hL (Nat.le_of_ble_eq_true rfl) (Nat.le_of_ble_eq_true rfl)
end LAWS
