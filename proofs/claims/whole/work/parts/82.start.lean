/-! The law's start: the two constructors, then its loop. -/
theorem ov_in {h : Hp} {a j m q : Nat} {f : Nat → va_E} (h1 : a + j ≤ q) (h2 : q < a + j + m) : ov h a j m f q = some (f (q - a)) := if_pos ⟨h1, h2⟩
theorem ov_out {h : Hp} {a j m q : Nat} {f : Nat → va_E} (h1 : ¬ (a + j ≤ q ∧ q < a + j + m)) : ov h a j m f q = h q := if_neg h1
def K00 (G : GT) (a : Nat) : Nat → va_E := fun j => kE G a j (C00 j)
def K01 (G : GT) (a : Nat) : Nat → va_E := fun j => if j = 106 then iA G 441 (fun _ => 0) else kE G a j (C00 j)
theorem B_new {G : GT} {a : Nat} {d6 d7 : va_E} : hset (ov (hset (ov (hset (fun _ => none) (a + 0) d6) a 0 105 (K00 G a)) (a + 105) d7) a 105 10 (K01 G a)) (a + 106) (iA G 441 (upd (fun _ => 0) 37 (-5))) = B G a C00 := by
  funext q
  unfold B
  by_cases h1 : q = a + 106
  · subst h1
    rw [hset_s, if_pos (by omega), Nat.add_sub_cancel_left]
    rfl
  · rw [hset_n h1]
    by_cases h2 : a + 105 ≤ q ∧ q < a + 105 + 10
    · rw [ov_in h2.1 h2.2, if_pos (by omega)]
      unfold K01
      rw [if_neg (by omega)]
    · rw [ov_out h2, hset_n (by omega)]
      by_cases h3 : a + 0 ≤ q ∧ q < a + 0 + 105
      · rw [ov_in h3.1 h3.2, if_pos (by omega)]
        rfl
      · rw [ov_out h3, hset_n (by omega), if_neg (by omega)]
section LAWS
variable {G : GT} {l : Launch} {mn : String} {sz b L : Nat} {xs : Nat → Int32}
set_option maxHeartbeats 4000000 in
theorem law_start (hL : L ≤ 2048) : V G l R_law mn cL_law 4 ret room_1 (EL b L xs) QL sz 0 0 0 [some (.ref b), none, none, none] [] (fun _ => none) := by
  refine N_new (a := sz) (q := 0) (fs := dfV6) dL_law_0 ckX6 (gm 62 (by decide +kernel) rfl) (gm 63 (by decide +kernel) rfl) (gm 47 (by decide +kernel) rfl) dfV6_ok (Nat.le_of_ble_eq_true rfl) (Nat.le_of_ble_eq_true rfl) rfl ?_
  refine V_dup dL_law_3 rfl ?_
  refine V_callI dL_law_4 kL_9 ykX6_init (tX6_init (a := sz) (f := K00 G sz) (g := fun i => some (sz + (18 + 15 * (C00 17 i).toInt.toNat))) hset_s (by omega) rfl (lt15 rfl rfl rfl rfl rfl rfl rfl rfl rfl rfl rfl rfl rfl rfl rfl) (lt15 rfl rfl rfl rfl rfl rfl rfl rfl rfl rfl rfl rfl rfl rfl rfl) rfl rfl (fun i hi => ?_) (fun k hk => ?_) rfl rfl rfl rfl rfl rfl rfl rfl rfl rfl rfl rfl) rfl (Nat.le_of_ble_eq_true rfl) ⟨by decide, by decide, (Nat.le_of_ble_eq_true rfl), (Nat.le_of_ble_eq_true rfl)⟩ (fun r h' q => ?_)
  · show some (sz + (18 + 15 * (nI i).toInt.toNat)) = _
    rw [nI_toInt (by omega)]
    rfl
  · rcases (show k = 0 ∨ k = 1 ∨ k = 2 ∨ k = 3 by omega) with z | z | z | z <;> subst z
    · exact (lt15 rfl rfl rfl rfl rfl rfl rfl rfl rfl rfl rfl rfl rfl rfl rfl)
    · exact (lt15 rfl rfl rfl rfl rfl rfl rfl rfl rfl rfl rfl rfl rfl rfl rfl)
    · exact (lt15 rfl rfl rfl rfl rfl rfl rfl rfl rfl rfl rfl rfl rfl rfl rfl)
    · exact (lt15 rfl rfl rfl rfl rfl rfl rfl rfl rfl rfl rfl rfl rfl rfl rfl)
  obtain ⟨rfl, rfl⟩ := q
  refine V_astore_n dL_law_7 (by decide) (by dsimp only [List.set] <;> rfl) ?_
  refine N_new (a := sz) (q := 105) (fs := dfV7) dL_law_8 ckX7 (gm 710 (by decide +kernel) rfl) (gm 711 (by decide +kernel) rfl) (gm 55 (by decide +kernel) rfl) dfV7_ok (Nat.le_of_ble_eq_true rfl) (Nat.le_of_ble_eq_true rfl) rfl ?_
  refine V_dup dL_law_11 rfl ?_
  refine V_callI dL_law_12 kL_12 ykX7_init (tX7_init (a := sz) (f := K01 G sz) hset_s (by omega) rfl rfl rfl rfl rfl rfl rfl rfl rfl rfl) rfl (Nat.le_of_ble_eq_true rfl) ⟨by decide, by decide, (Nat.le_of_ble_eq_true rfl), (Nat.le_of_ble_eq_true rfl)⟩ (fun r h' q => ?_)
  obtain ⟨rfl, rfl⟩ := q
  refine V_astore_n dL_law_15 (by decide) (by dsimp only [List.set] <;> rfl) ?_
  refine V_iconst (v := 0) dL_law_16 (by decide) ?_
  refine V_istore_n dL_law_17 (by decide) (by dsimp only [List.set] <;> rfl) ?_
  refine V_hq B_new ?_
  exact lw_loop hL (Nat.le_of_ble_eq_true rfl) (Nat.le_of_ble_eq_true rfl) (L + 5) 0 C00 (by omega) (by omega) JE_0
end LAWS
