/-! The constructors 2. -/
theorem NF_in {h : Hp} {a j m q : Nat} {f : Nat → va_E} {e : va_E} (h1 : j < q) (h2 : q < j + 1 + m) : NF h a j m f e (a + q) = some (f q) := by
  unfold NF ov
  rw [hset_n (by omega), if_pos (by omega)]
  congr 2
  omega
theorem NF_out {h : Hp} {a j m q : Nat} {f : Nat → va_E} {e : va_E} (h1 : q < j) : NF h a j m f e (a + q) = h (a + q) := by
  unfold NF ov
  rw [hset_n (by omega), if_neg (by omega)]
theorem NF_sw {h : Hp} {a j q : Nat} {f : Nat → va_E} {e e0 x0 : va_E} (hq : j + 1 = q) : hset (hset (NF h a j 0 f e) (a + q) x0) (a + j) e0 = NF (hset h (a + j) e0) a q 0 f x0 := by
  subst hq
  funext r
  unfold NF ov
  by_cases h1 : r = a + j
  · subst h1
    rw [hset_s, hset_n (by omega), if_neg (by omega), hset_s]
  · by_cases h2 : r = a + (j + 1)
    · subst h2
      rw [hset_n h1, hset_s, hset_s]
    · rw [hset_n h1, hset_n h2, hset_n h1, if_neg (by omega), hset_n h2, if_neg (by omega), hset_n h1]
theorem ov_hd {h : Hp} {a j q m M : Nat} {f : Nat → va_E} {e0 : va_E} (he : f j = e0) (hq : j + 1 = q) (hM : m + 1 = M) : ov (hset h (a + j) e0) a q m f = ov h a j M f := by
  subst hq; subst hM; subst he
  funext r
  unfold ov
  by_cases h1 : r = a + j
  · subst h1
    rw [if_neg (by omega), hset_s, if_pos (by omega)]
    congr 2
    omega
  · by_cases h2 : a + (j + 1) ≤ r ∧ r < a + (j + 1) + m
    · rw [if_pos h2, if_pos (by omega)]
    · rw [if_neg h2, hset_n h1, if_neg (by omega)]
section ROWSS
variable {G : GT} {l : Launch} {own mn : String} {cc : ByteArray} {mL : Nat} {ret : Option FieldType} {R : Room} {E : ET} {Qc : QT} {sz k n pc nx tg : Nat} {L : List (Option Value)} {st : List Value} {h : Hp} {a j m q M : Nat} {f : Nat → va_E} {e : va_E}
/-- what an array of references holds behind its end doesn't matter -/
theorem V_sswap {b N : Nat} {g g' : Nat → Option Nat} (he : h b = some (sA G N g)) (hg : ∀ i, i < N → g i = g' i) (kk : V G l own mn cc mL ret R E Qc sz k n pc L st (hset h b (sA G N g'))) : V G l own mn cc mL ret R E Qc sz k n pc L st h := by
  intro p e s m args below meth c A H locs ls C hE hF hz hh hS hA hl
  refine kk p e s m args below meth c A H locs ls C hE hF hz ?_ hS hA hl
  obtain ⟨ws, hr, hP, hD⟩ := hh
  obtain ⟨q0, hq0⟩ := (hr b _).mp he
  have h1 : H[b]? = some (arrV G.2.2.2.1 N (fun j => va_rf (g j))) := hP q0 _ hq0
  have hf : (fun j : Fin N => va_rf (g j.val)) = (fun j : Fin N => va_rf (g' j.val)) := funext fun j => by rw [hg j.val j.isLt]
  have h2 : va_at G.1 vwCl (b, sA G N g') H := by
    show H[b]? = some (arrV G.2.2.2.1 N (fun j => va_rf (g' j)))
    rw [h1]
    unfold arrV
    rw [hf]
  exact ⟨_, hRel_set hr hD hq0, hP.set hD hq0 h2 (fun _ _ => rfl), hD.set hq0⟩
end ROWSS
section CLS
variable {G : GT} {l : Launch} {sz a : Nat} {h : Hp} {f : Nat → va_E}
def hiF (a i : Nat) : Nat → Option Nat := fun k => if k < i then some (a + (18 + 15 * k)) else none
set_option maxHeartbeats 4000000 in
theorem tX0_init (hh : h (a + 16) = some (.inr (0, dfV0))) (hz : sz = a + 17) (e0 : f 16 = .inr (0, [.ref (a + 17), .int 0])) {g : Nat → Option Nat} (e1 : f 17 = sA G 4 g) (hg : ∀ i, i < 4 → g i = some (a + (18 + 15 * i))) (hf : ∀ k, k < 4 → ∀ i, i < 15 → f (18 + 15 * k + i) = stE G a (18 + 15 * k) i (stI i)) : Ct G l yX0_init cX0_init 2 none 3 61 2044 sz [.ref (a + 16)] h (Rov h a 16 62 f) := by
  have h0 := NF_0 (f := f) hh
  have hf0 := hf 0 (by decide)
  have hf1 := hf 1 (by decide)
  have hf2 := hf 2 (by decide)
  have hf3 := hf 3 (by decide)
  refine Ct.of (own := RX0) (mn := "<init>") (L0 := [some (.ref (a + 16)), none]) (by decide +kernel) rfl rfl rfl (Nat.le_of_ble_eq_true rfl) rfl ?_
  refine V_hq h0 ?_
  unfold dfV0
  refine V_aload_n dX0_init_0 rfl ?_
  refine V_oinit dX0_init_1 (gm 137 (by decide +kernel) rfl) (gm 42 (by decide +kernel) rfl) (gm 43 (by decide +kernel) rfl) (Nat.le_of_ble_eq_true rfl) (Nat.le_of_ble_eq_true rfl) ?_
  refine V_aload_n dX0_init_4 rfl ?_
  refine V_iconst (v := 4) dX0_init_5 (by decide) ?_
  refine V_anew dX0_init_6 (N := 4) (gm 138 (by decide +kernel) rfl) rfl (by decide) (Nat.le_of_ble_eq_true rfl) (Nat.le_of_ble_eq_true rfl) (Nat.le_of_ble_eq_true rfl) ?_
  rw [show sz + 0 = a + 17 from by omega]
  refine V_putF (C0 := RX0) dX0_init_9 rfl ckX0 (j := 0) (by decide) rfl rfl (gm 141 (by decide +kernel) rfl) (by rw [hset_n (by omega)]; exact NF_at) rfl rfl (Nat.le_of_ble_eq_true rfl) (by dsimp only [List.set] <;> rfl) ?_
  refine V_hq (NF_sw rfl) ?_
  refine V_iconst (v := 0) dX0_init_12 (by decide) ?_
  refine V_istore_n dX0_init_13 (by decide) (by dsimp only [List.set] <;> rfl) rfl ?_
  refine V_iload_n dX0_init_14 rfl ?_
  refine V_aload_n dX0_init_15 rfl ?_
  refine V_get dX0_init_16 fX0_11 (by rw [NF_out (by decide)]; exact hset_s) rfl ?_
  refine V_alens dX0_init_19 (v := 4) NF_at rfl ?_
  refine V_icmp_ge dX0_init_20 (fun z => absurd z (by decide)) (fun _ => ?_)
  refine V_aload_n dX0_init_23 rfl ?_
  refine V_get dX0_init_24 fX0_11 (by rw [NF_out (by decide)]; exact hset_s) rfl ?_
  refine V_iload_n dX0_init_27 rfl ?_
  refine N_new (a := a) (q := 18) (fs := dfV4) dX0_init_28 ckX4 (gm 138 (by decide +kernel) rfl) (gm 45 (by decide +kernel) rfl) (gm 23 (by decide +kernel) rfl) dfV4_ok (Nat.le_of_ble_eq_true rfl) (Nat.le_of_ble_eq_true rfl) (by omega) ?_
  refine V_dup dX0_init_31 rfl ?_
  refine N_callI (q := 18) (M := 15) dX0_init_32 kX0_17 ykX4_init (tX4_init (s := 18) hset_s (by omega) hf0) rfl (Nat.le_of_ble_eq_true rfl) ⟨by decide, by decide, (Nat.le_of_ble_eq_true rfl), (Nat.le_of_ble_eq_true rfl)⟩ (by omega) rfl ?_
  refine V_aast dX0_init_35 NF_at (show vp_in (nI 0) 4 from vp_in_nI (by decide) (by decide)) (by rw [NF_in (by decide) (by decide)]; exact congrArg some (hf0 0 (by decide))) ?_
  refine V_hq NF_put ?_
  refine V_iinc dX0_init_36 rfl (show _ = 1 from rfl) (by decide) (by dsimp only [List.set] <;> rfl) ?_
  refine V_goto dX0_init_39 ?_
  refine V_iload_n dX0_init_14 rfl ?_
  refine V_aload_n dX0_init_15 rfl ?_
  refine V_get dX0_init_16 fX0_11 (by rw [NF_out (by decide)]; exact hset_s) rfl ?_
  refine V_alens dX0_init_19 (v := 4) NF_at rfl ?_
  refine V_icmp_ge dX0_init_20 (fun z => absurd z (by decide)) (fun _ => ?_)
  refine V_aload_n dX0_init_23 rfl ?_
  refine V_get dX0_init_24 fX0_11 (by rw [NF_out (by decide)]; exact hset_s) rfl ?_
  refine V_iload_n dX0_init_27 rfl ?_
  refine N_new (a := a) (q := 33) (fs := dfV4) dX0_init_28 ckX4 (gm 138 (by decide +kernel) rfl) (gm 45 (by decide +kernel) rfl) (gm 23 (by decide +kernel) rfl) dfV4_ok (Nat.le_of_ble_eq_true rfl) (Nat.le_of_ble_eq_true rfl) (by omega) ?_
  refine V_dup dX0_init_31 rfl ?_
  refine N_callI (q := 33) (M := 30) dX0_init_32 kX0_17 ykX4_init (tX4_init (s := 33) hset_s (by omega) hf1) rfl (Nat.le_of_ble_eq_true rfl) ⟨by decide, by decide, (Nat.le_of_ble_eq_true rfl), (Nat.le_of_ble_eq_true rfl)⟩ (by omega) rfl ?_
  refine V_aast dX0_init_35 NF_at (show vp_in (nI 1) 4 from vp_in_nI (by decide) (by decide)) (by rw [NF_in (by decide) (by decide)]; exact congrArg some (hf1 0 (by decide))) ?_
  refine V_hq NF_put ?_
  refine V_iinc dX0_init_36 rfl (show _ = 2 from rfl) (by decide) (by dsimp only [List.set] <;> rfl) ?_
  refine V_goto dX0_init_39 ?_
  refine V_iload_n dX0_init_14 rfl ?_
  refine V_aload_n dX0_init_15 rfl ?_
  refine V_get dX0_init_16 fX0_11 (by rw [NF_out (by decide)]; exact hset_s) rfl ?_
  refine V_alens dX0_init_19 (v := 4) NF_at rfl ?_
  refine V_icmp_ge dX0_init_20 (fun z => absurd z (by decide)) (fun _ => ?_)
  refine V_aload_n dX0_init_23 rfl ?_
  refine V_get dX0_init_24 fX0_11 (by rw [NF_out (by decide)]; exact hset_s) rfl ?_
  refine V_iload_n dX0_init_27 rfl ?_
  refine N_new (a := a) (q := 48) (fs := dfV4) dX0_init_28 ckX4 (gm 138 (by decide +kernel) rfl) (gm 45 (by decide +kernel) rfl) (gm 23 (by decide +kernel) rfl) dfV4_ok (Nat.le_of_ble_eq_true rfl) (Nat.le_of_ble_eq_true rfl) (by omega) ?_
  refine V_dup dX0_init_31 rfl ?_
  refine N_callI (q := 48) (M := 45) dX0_init_32 kX0_17 ykX4_init (tX4_init (s := 48) hset_s (by omega) hf2) rfl (Nat.le_of_ble_eq_true rfl) ⟨by decide, by decide, (Nat.le_of_ble_eq_true rfl), (Nat.le_of_ble_eq_true rfl)⟩ (by omega) rfl ?_
  refine V_aast dX0_init_35 NF_at (show vp_in (nI 2) 4 from vp_in_nI (by decide) (by decide)) (by rw [NF_in (by decide) (by decide)]; exact congrArg some (hf2 0 (by decide))) ?_
  refine V_hq NF_put ?_
  refine V_iinc dX0_init_36 rfl (show _ = 3 from rfl) (by decide) (by dsimp only [List.set] <;> rfl) ?_
  refine V_goto dX0_init_39 ?_
  refine V_iload_n dX0_init_14 rfl ?_
  refine V_aload_n dX0_init_15 rfl ?_
  refine V_get dX0_init_16 fX0_11 (by rw [NF_out (by decide)]; exact hset_s) rfl ?_
  refine V_alens dX0_init_19 (v := 4) NF_at rfl ?_
  refine V_icmp_ge dX0_init_20 (fun z => absurd z (by decide)) (fun _ => ?_)
  refine V_aload_n dX0_init_23 rfl ?_
  refine V_get dX0_init_24 fX0_11 (by rw [NF_out (by decide)]; exact hset_s) rfl ?_
  refine V_iload_n dX0_init_27 rfl ?_
  refine N_new (a := a) (q := 63) (fs := dfV4) dX0_init_28 ckX4 (gm 138 (by decide +kernel) rfl) (gm 45 (by decide +kernel) rfl) (gm 23 (by decide +kernel) rfl) dfV4_ok (Nat.le_of_ble_eq_true rfl) (Nat.le_of_ble_eq_true rfl) (by omega) ?_
  refine V_dup dX0_init_31 rfl ?_
  refine N_callI (q := 63) (M := 60) dX0_init_32 kX0_17 ykX4_init (tX4_init (s := 63) hset_s (by omega) hf3) rfl (Nat.le_of_ble_eq_true rfl) ⟨by decide, by decide, (Nat.le_of_ble_eq_true rfl), (Nat.le_of_ble_eq_true rfl)⟩ (by omega) rfl ?_
  refine V_aast dX0_init_35 NF_at (show vp_in (nI 3) 4 from vp_in_nI (by decide) (by decide)) (by rw [NF_in (by decide) (by decide)]; exact congrArg some (hf3 0 (by decide))) ?_
  refine V_hq NF_put ?_
  refine V_iinc dX0_init_36 rfl (show _ = 4 from rfl) (by decide) (by dsimp only [List.set] <;> rfl) ?_
  refine V_goto dX0_init_39 ?_
  refine V_iload_n dX0_init_14 rfl ?_
  refine V_aload_n dX0_init_15 rfl ?_
  refine V_get dX0_init_16 fX0_11 (by rw [NF_out (by decide)]; exact hset_s) rfl ?_
  refine V_alens dX0_init_19 (v := 4) NF_at rfl ?_
  refine V_icmp_ge dX0_init_20 (fun _ => ?_) (fun z => absurd (by decide) z)
  refine V_sswap (g' := g) NF_at (fun i hi => ?_) ?_
  · rw [hg i hi]
    rcases (show i = 0 ∨ i = 1 ∨ i = 2 ∨ i = 3 by omega) with z | z | z | z <;> subst z <;> rfl
  refine V_hq NF_put ?_
  refine V_vret dX0_init_42 rfl rfl rfl ?_
  refine Rov_i ?_
  rw [NF_fin (M := 61) e1 rfl]
  exact ov_hd e0 rfl rfl
set_option maxHeartbeats 4000000 in
theorem tX6_init (hh : h (a + 0) = some (.inr (6, dfV6))) (hz : sz = a + 1) (e0 : f 0 = .inr (6, [.ref (a + 1), .ref (a + 16), .ref (a + 78), .int 0, .ref (a + 93), .ref (a + 101), .ref (a + 102), .ref (a + 104)])) (hN : ∀ i, i < 15 → f (1 + i) = stE G a 1 i (stI i)) (hS : ∀ i, i < 15 → f (78 + i) = stE G a 78 i (stI i)) (e16 : f 16 = .inr (0, [.ref (a + 17), .int 0])) {g : Nat → Option Nat} (e17 : f 17 = sA G 4 g) (hg : ∀ i, i < 4 → g i = some (a + (18 + 15 * i))) (hf : ∀ k, k < 4 → ∀ i, i < 15 → f (18 + 15 * k + i) = stE G a (18 + 15 * k) i (stI i)) (e93 : f 93 = .inr (5, [.ref (a + 94), .int 0, .int 0, .ref (a + 95)])) (e94 : f 94 = chA G 60 (fun _ => 0)) (e95 : f 95 = shE G a 95 20 (fun _ => 0)) (e96 : f 96 = iA G 400 (fun _ => 0)) (e97 : f 97 = iA G 400 (fun _ => 0)) (e98 : f 98 = iA G 400 (fun _ => 0)) (e99 : f 99 = iA G 20 (fun _ => 0)) (e100 : f 100 = iA G 20 (fun _ => 0)) (e101 : f 101 = .inr (1, dfV1)) (e102 : f 102 = .inr (2, [.ref (a + 103), .int 0])) (e103 : f 103 = iA G 30 (fun _ => 0)) (e104 : f 104 = iA G 13 (fun _ => 0)) : Ct G l yX6_init cX6_init 1 none 4 104 4425 sz [.ref (a + 0)] h (Rov h a 0 105 f) := by
  have h0 := NF_0 (f := f) hh
  refine Ct.of (own := RX6) (mn := "<init>") (L0 := [some (.ref (a + 0))]) (by decide +kernel) rfl rfl rfl (Nat.le_of_ble_eq_true rfl) rfl ?_
  refine V_hq h0 ?_
  unfold dfV6
  refine V_aload_n dX6_init_0 rfl ?_
  refine V_oinit dX6_init_1 (gm 41 (by decide +kernel) rfl) (gm 42 (by decide +kernel) rfl) (gm 43 (by decide +kernel) rfl) (Nat.le_of_ble_eq_true rfl) (Nat.le_of_ble_eq_true rfl) ?_
  refine V_aload_n dX6_init_4 rfl ?_
  refine N_new (a := a) (q := 1) (fs := dfV4) dX6_init_5 ckX4 (gm 44 (by decide +kernel) rfl) (gm 45 (by decide +kernel) rfl) (gm 23 (by decide +kernel) rfl) dfV4_ok (Nat.le_of_ble_eq_true rfl) (Nat.le_of_ble_eq_true rfl) (by omega) ?_
  refine V_dup dX6_init_8 rfl ?_
  refine N_callI (q := 1) (M := 15) dX6_init_9 kX6_11 ykX4_init (tX4_init (s := 1) hset_s (by omega) hN) rfl (Nat.le_of_ble_eq_true rfl) ⟨by decide, by decide, (Nat.le_of_ble_eq_true rfl), (Nat.le_of_ble_eq_true rfl)⟩ (by omega) rfl ?_
  refine N_putF dX6_init_12 rfl ckX6 (i := 0) (by decide) rfl rfl (gm 197 (by decide +kernel) rfl) rfl rfl (Nat.le_of_ble_eq_true rfl) (by dsimp only [List.set] <;> rfl) ?_
  refine V_aload_n dX6_init_15 rfl ?_
  refine N_new (a := a) (q := 16) (fs := dfV0) dX6_init_16 ckX0 (gm 132 (by decide +kernel) rfl) (gm 133 (by decide +kernel) rfl) (gm 27 (by decide +kernel) rfl) dfV0_ok (Nat.le_of_ble_eq_true rfl) (Nat.le_of_ble_eq_true rfl) (by omega) ?_
  refine V_dup dX6_init_19 rfl ?_
  refine N_callI (q := 16) (M := 77) dX6_init_20 kX6_18 ykX0_init (tX0_init hset_s (by omega) e16 e17 hg hf) rfl (Nat.le_of_ble_eq_true rfl) ⟨by decide, by decide, (Nat.le_of_ble_eq_true rfl), (Nat.le_of_ble_eq_true rfl)⟩ (by omega) rfl ?_
  refine N_putF dX6_init_23 rfl ckX6 (i := 1) (by decide) rfl rfl (gm 198 (by decide +kernel) rfl) rfl rfl (Nat.le_of_ble_eq_true rfl) (by dsimp only [List.set] <;> rfl) ?_
  refine V_aload_n dX6_init_26 rfl ?_
  refine N_new (a := a) (q := 78) (fs := dfV4) dX6_init_27 ckX4 (gm 44 (by decide +kernel) rfl) (gm 45 (by decide +kernel) rfl) (gm 23 (by decide +kernel) rfl) dfV4_ok (Nat.le_of_ble_eq_true rfl) (Nat.le_of_ble_eq_true rfl) (by omega) ?_
  refine V_dup dX6_init_30 rfl ?_
  refine N_callI (q := 78) (M := 92) dX6_init_31 kX6_11 ykX4_init (tX4_init (s := 78) hset_s (by omega) hS) rfl (Nat.le_of_ble_eq_true rfl) ⟨by decide, by decide, (Nat.le_of_ble_eq_true rfl), (Nat.le_of_ble_eq_true rfl)⟩ (by omega) rfl ?_
  refine N_putF dX6_init_34 rfl ckX6 (i := 2) (by decide) rfl rfl (gm 199 (by decide +kernel) rfl) rfl rfl (Nat.le_of_ble_eq_true rfl) (by dsimp only [List.set] <;> rfl) ?_
  refine V_aload_n dX6_init_37 rfl ?_
  refine N_new (a := a) (q := 93) (fs := dfV5) dX6_init_38 ckX5 (gm 149 (by decide +kernel) rfl) (gm 150 (by decide +kernel) rfl) (gm 28 (by decide +kernel) rfl) dfV5_ok (Nat.le_of_ble_eq_true rfl) (Nat.le_of_ble_eq_true rfl) (by omega) ?_
  refine V_dup dX6_init_41 rfl ?_
  refine N_callI (q := 93) (M := 100) dX6_init_42 kX6_28 ykX5_init (tX5_init hset_s (by omega) e93 e94 e95 e96 e97 e98 e99 e100) rfl (Nat.le_of_ble_eq_true rfl) ⟨by decide, by decide, (Nat.le_of_ble_eq_true rfl), (Nat.le_of_ble_eq_true rfl)⟩ (by omega) rfl ?_
  refine N_putF dX6_init_45 rfl ckX6 (i := 4) (by decide) rfl rfl (gm 201 (by decide +kernel) rfl) rfl rfl (Nat.le_of_ble_eq_true rfl) (by dsimp only [List.set] <;> rfl) ?_
  refine V_aload_n dX6_init_48 rfl ?_
  refine N_new (a := a) (q := 101) (fs := dfV1) dX6_init_49 ckX1 (gm 174 (by decide +kernel) rfl) (gm 175 (by decide +kernel) rfl) (gm 29 (by decide +kernel) rfl) dfV1_ok (Nat.le_of_ble_eq_true rfl) (Nat.le_of_ble_eq_true rfl) (by omega) ?_
  refine V_dup dX6_init_52 rfl ?_
  refine N_callI (q := 101) (M := 101) dX6_init_53 kX6_35 ykX1_init (tX1_init hset_s e101) rfl (Nat.le_of_ble_eq_true rfl) ⟨by decide, by decide, (Nat.le_of_ble_eq_true rfl), (Nat.le_of_ble_eq_true rfl)⟩ (by omega) rfl ?_
  refine N_putF dX6_init_56 rfl ckX6 (i := 5) (by decide) rfl rfl (gm 202 (by decide +kernel) rfl) rfl rfl (Nat.le_of_ble_eq_true rfl) (by dsimp only [List.set] <;> rfl) ?_
  refine V_aload_n dX6_init_59 rfl ?_
  refine N_new (a := a) (q := 102) (fs := dfV2) dX6_init_60 ckX2 (gm 195 (by decide +kernel) rfl) (gm 51 (by decide +kernel) rfl) (gm 24 (by decide +kernel) rfl) dfV2_ok (Nat.le_of_ble_eq_true rfl) (Nat.le_of_ble_eq_true rfl) (by omega) ?_
  refine V_dup dX6_init_63 rfl ?_
  refine N_callI (q := 102) (M := 103) dX6_init_64 kX6_42 ykX2_init (tX2_init (j := 102) hset_s (by omega) e102 e103) rfl (Nat.le_of_ble_eq_true rfl) ⟨by decide, by decide, (Nat.le_of_ble_eq_true rfl), (Nat.le_of_ble_eq_true rfl)⟩ (by omega) rfl ?_
  refine N_putF dX6_init_67 rfl ckX6 (i := 6) (by decide) rfl rfl (gm 203 (by decide +kernel) rfl) rfl rfl (Nat.le_of_ble_eq_true rfl) (by dsimp only [List.set] <;> rfl) ?_
  refine V_aload_n dX6_init_70 rfl ?_
  refine V_bipush (v := 13) dX6_init_71 (by decide) ?_
  refine N_newi (q := 104) (M := 104) (N := 13) dX6_init_73 rfl (by decide) (Nat.le_of_ble_eq_true rfl) (Nat.le_of_ble_eq_true rfl) (Nat.le_of_ble_eq_true rfl) e104 (by omega) (by omega) rfl ?_
  refine N_putF dX6_init_75 rfl ckX6 (i := 7) (by decide) rfl rfl (gm 204 (by decide +kernel) rfl) rfl rfl (Nat.le_of_ble_eq_true rfl) (by dsimp only [List.set] <;> rfl) ?_
  refine V_vret dX6_init_78 rfl rfl rfl ?_
  exact Rov_i (NF_fin e0 rfl)
end CLS
