/-! String.indexOf(int) on the verbs' String. -/
section STRI
variable {G : GT} {l : Launch} {sz a : Nat} {h : Hp}
theorem tJ0_isLatin1 : Ct G l yJ0_isLatin1_aae02 cJ0_isLatin1_aae02 1 (some .boolean) 0 0 0 sz [.ref (sK G)] h (Rd (.int 1) h) := by
  refine Ct.of (own := RJ0) (mn := "isLatin1") (L0 := [some (.ref (sK G))]) (by decide +kernel) rfl rfl rfl (Nat.le_of_ble_eq_true rfl) rfl ?_
  refine V_gcs dJ0_isLatin1_aae02_0 rfl ?_
  refine V_if_eq dJ0_isLatin1_aae02_3 (fun z => absurd z (by decide)) (fun _ => ?_)
  refine V_aload_n dJ0_isLatin1_aae02_6 rfl ?_
  refine V_gcod dJ0_isLatin1_aae02_7 rfl ?_
  refine V_if_ne dJ0_isLatin1_aae02_10 (fun z => absurd z (fun z => z rfl)) (fun _ => ?_)
  refine V_iconst (v := 1) dJ0_isLatin1_aae02_13 (by decide) ?_
  refine V_goto dJ0_isLatin1_aae02_14 ?_
  refine V_zret dJ0_isLatin1_aae02_18 rfl rfl rfl rfl ?_
  exact Rd_i rfl
theorem tJ0_coder : Ct G l yJ0_coder_7d493 cJ0_coder_7d493 1 (some .byte) 0 0 0 sz [.ref (sK G)] h (Rd (.int 0) h) := by
  refine Ct.of (own := RJ0) (mn := "coder") (L0 := [some (.ref (sK G))]) (by decide +kernel) rfl rfl rfl (Nat.le_of_ble_eq_true rfl) rfl ?_
  refine V_gcs dJ0_coder_7d493_0 rfl ?_
  refine V_if_eq dJ0_coder_7d493_3 (fun z => absurd z (by decide)) (fun _ => ?_)
  refine V_aload_n dJ0_coder_7d493_6 rfl ?_
  refine V_gcod dJ0_coder_7d493_7 rfl ?_
  refine V_goto dJ0_coder_7d493_10 ?_
  refine V_zret dJ0_coder_7d493_14 rfl rfl rfl rfl ?_
  exact Rd_i rfl
theorem tJ0_length : Ct G l yJ0_length_8abf5 cJ0_length_8abf5 1 (some .int) 1 0 0 sz [.ref (sK G)] h (Rd (.int 6) h) := by
  refine Ct.of (own := RJ0) (mn := "length") (L0 := [some (.ref (sK G))]) (by decide +kernel) rfl rfl rfl (Nat.le_of_ble_eq_true rfl) rfl ?_
  refine V_aload_n dJ0_length_8abf5_0 rfl ?_
  refine V_gval dJ0_length_8abf5_1 rfl ?_
  refine V_lenV dJ0_length_8abf5_4 ?_
  refine V_aload_n dJ0_length_8abf5_5 rfl ?_
  refine V_callT dJ0_length_8abf5_6 kJ0_335 ykJ0_coder_7d493 rfl tJ0_coder rfl (Nat.le_of_ble_eq_true rfl) ⟨by decide, by decide, by decide, by decide⟩ ?_
  refine V_ishr dJ0_length_8abf5_9 ?_
  refine V_iret dJ0_length_8abf5_10 rfl rfl rfl ?_
  exact Rd_i rfl
theorem tJ1_canEncode (c : Int32) : Ct G l yJ1_canEncode_9a6ad cJ1_canEncode_9a6ad 1 (some .boolean) 0 0 0 sz [.int c] h (Rd (.int (bI (0 ≤ c ∧ c ≤ 255))) h) := by
  refine Ct.of (own := RJ1) (mn := "canEncode") (L0 := [some (.int c)]) (by decide +kernel) rfl rfl rfl (Nat.le_of_ble_eq_true rfl) rfl ?_
  refine V_iload_n dJ1_canEncode_9a6ad_0 rfl ?_
  refine V_if_lt dJ1_canEncode_9a6ad_1 (fun c1 => ?_) (fun c1 => ?_)
  · refine V_iconst (v := 0) dJ1_canEncode_9a6ad_15 (by decide) ?_
    refine V_zret dJ1_canEncode_9a6ad_16 rfl (by first | rfl | exact bI_nar) rfl rfl ?_
    exact Rd_i (bI_f (fun z => by have := z.1; rw [i_le] at this; rw [i_lt] at c1; omega)).symm
  · refine V_iload_n dJ1_canEncode_9a6ad_4 rfl ?_
    refine V_sipush (v := 255) dJ1_canEncode_9a6ad_5 (by decide) ?_
    refine V_icmp_gt dJ1_canEncode_9a6ad_8 (fun c8 => ?_) (fun c8 => ?_)
    · refine V_iconst (v := 0) dJ1_canEncode_9a6ad_15 (by decide) ?_
      refine V_zret dJ1_canEncode_9a6ad_16 rfl (by first | rfl | exact bI_nar) rfl rfl ?_
      exact Rd_i (bI_f (fun z => by have := z.2; rw [i_le] at this; rw [i_lt] at c8; omega)).symm
    · refine V_iconst (v := 1) dJ1_canEncode_9a6ad_11 (by decide) ?_
      refine V_goto dJ1_canEncode_9a6ad_12 ?_
      refine V_zret dJ1_canEncode_9a6ad_16 rfl (by first | rfl | exact bI_nar) rfl rfl ?_
      exact Rd_i (bI_t ⟨by rw [i_le]; rw [i_lt] at c1; omega, by rw [i_le]; rw [i_lt] at c8; omega⟩).symm
/-- where the sign (as a byte) lies in the verbs from place k on -/
def ixF (b : Int32) : Nat → Nat → Int32
  | 0, _ => -1
  | m + 1, k => if vrb k = b then nI k else ixF b m (k + 1)
set_option maxHeartbeats 4000000 in
theorem tJ1_indexOfChar (c : Int32) : Ct G l yJ1_indexOfChar_4cfef cJ1_indexOfChar_4cfef 6 (some .int) 0 0 0 sz [.ref (sV G), .int c, .int 0, .int 6] h (Rd (.int (ixF c.toInt8.toInt32 6 0)) h) := by
  refine Ct.of (own := RJ1) (mn := "indexOfChar") (L0 := [some (.ref (sV G)), some (.int c), some (.int 0), some (.int 6), none, none]) (by decide +kernel) rfl rfl rfl (Nat.le_of_ble_eq_true rfl) rfl ?_
  refine V_iload_n dJ1_indexOfChar_4cfef_0 rfl ?_
  refine V_i2b dJ1_indexOfChar_4cfef_1 rfl ?_
  refine V_istore dJ1_indexOfChar_4cfef_2 (by decide) (by dsimp only [List.set] <;> rfl) rfl ?_
  refine V_iload_n dJ1_indexOfChar_4cfef_4 rfl ?_
  refine V_istore dJ1_indexOfChar_4cfef_5 (by decide) (by dsimp only [List.set] <;> rfl) rfl ?_
  have key : ∀ (m k : Nat), k + m = 6 → ixF c.toInt8.toInt32 6 0 = ixF c.toInt8.toInt32 m k → V G l RJ1 "indexOfChar" cJ1_indexOfChar_4cfef 6 (some .int) (rmd 0 0 0) E0 (Qm G (Rd (.int (ixF c.toInt8.toInt32 6 0)) h) sz 0 0) sz 0 0 7 [some (.ref (sV G)), some (.int c), some (.int 0), some (.int 6), some (.int c.toInt8.toInt32), some (.int (nI k))] [] h := by
    intro m
    induction m with
    | zero =>
      intro k hk he
      obtain rfl : k = 6 := by omega
      refine V_iload dJ1_indexOfChar_4cfef_7 rfl ?_
      refine V_iload_n dJ1_indexOfChar_4cfef_9 rfl ?_
      refine V_icmp_ge dJ1_indexOfChar_4cfef_10 (fun _ => ?_) (fun z => absurd ((cle (by repeat (first | with_reducible rfl | with_reducible exact nlit | with_reducible apply nadd | with_reducible apply nmul | with_reducible apply nsub | with_reducible assumption | omega)) (by repeat (first | with_reducible rfl | with_reducible exact nlit | with_reducible apply nadd | with_reducible apply nmul | with_reducible apply nsub | with_reducible assumption | omega)) (by omega) (by omega)).mpr (by omega)) z)
      refine V_iconst (v := (-1)) dJ1_indexOfChar_4cfef_31 (by decide) ?_
      refine V_iret dJ1_indexOfChar_4cfef_32 rfl rfl rfl ?_
      exact Rd_i (by rw [he]; rfl)
    | succ m ih =>
      intro k hk he
      have hs : ixF c.toInt8.toInt32 (m + 1) k = if vrb k = c.toInt8.toInt32 then nI k else ixF c.toInt8.toInt32 m (k + 1) := rfl
      refine V_iload dJ1_indexOfChar_4cfef_7 rfl ?_
      refine V_iload_n dJ1_indexOfChar_4cfef_9 rfl ?_
      refine V_icmp_ge dJ1_indexOfChar_4cfef_10 (fun z => absurd z (fun z => absurd ((cle (by repeat (first | with_reducible rfl | with_reducible exact nlit | with_reducible apply nadd | with_reducible apply nmul | with_reducible apply nsub | with_reducible assumption | omega)) (by repeat (first | with_reducible rfl | with_reducible exact nlit | with_reducible apply nadd | with_reducible apply nmul | with_reducible apply nsub | with_reducible assumption | omega)) (by omega) (by omega)).mp z) (by omega))) (fun _ => ?_)
      refine V_aload_n dJ1_indexOfChar_4cfef_13 rfl ?_
      refine V_iload dJ1_indexOfChar_4cfef_14 rfl ?_
      refine V_bldV dJ1_indexOfChar_4cfef_16 (by repeat (first | with_reducible rfl | with_reducible exact nlit | with_reducible apply nadd | with_reducible apply nmul | with_reducible apply nsub | with_reducible assumption | omega)) (by omega) ?_
      refine V_iload dJ1_indexOfChar_4cfef_17 rfl ?_
      refine V_icmp_ne dJ1_indexOfChar_4cfef_19 (fun c19 => ?_) (fun c19 => ?_)
      · rename_i q
        refine V_iinc dJ1_indexOfChar_4cfef_25 rfl (ninc _) (by decide) (by dsimp only [List.set] <;> rfl) ?_
        refine V_goto dJ1_indexOfChar_4cfef_28 ?_
        exact ih (k + 1) (by omega) (by rw [he, hs, if_neg c19])
      · refine V_iload dJ1_indexOfChar_4cfef_22 rfl ?_
        refine V_iret dJ1_indexOfChar_4cfef_24 rfl rfl rfl ?_
        exact Rd_i (by rw [he, hs, if_pos c19])
  exact key 6 0 rfl rfl
def vbR (c : Int32) : Int32 := match vB c with
  | some v => nI v
  | none => -1
theorem i2b_small {m : Nat} (h : m ≤ 255) : (nI m).toInt8.toInt32 = if m < 128 then nI m else nI m - 256 := by
  have : ∀ m : Fin 256, (nI m.val).toInt8.toInt32 = if m.val < 128 then nI m.val else nI m.val - 256 := by decide +kernel
  exact this ⟨m, by omega⟩
theorem ix_vb : ∀ m : Fin 256, ixF (nI m.val).toInt8.toInt32 6 0 = vbR (nI m.val) := by decide +kernel
set_option maxHeartbeats 4000000 in
theorem tJ1_indexOf (c : Int32) : Ct G l yJ1_indexOf_4cfef cJ1_indexOf_4cfef 4 (some .int) 1 0 0 sz [.ref (sV G), .int c, .int 0, .int 6] h (Rd (.int (vbR c)) h) := by
  refine Ct.of (own := RJ1) (mn := "indexOf") (L0 := [some (.ref (sV G)), some (.int c), some (.int 0), some (.int 6)]) (by decide +kernel) rfl rfl rfl (Nat.le_of_ble_eq_true rfl) rfl ?_
  refine V_iload_n dJ1_indexOf_4cfef_0 rfl ?_
  refine V_callSr dJ1_indexOf_4cfef_1 kJ1_88 ykJ1_canEncode_9a6ad (tJ1_canEncode c) rfl (Nat.le_of_ble_eq_true rfl) ⟨by decide, by decide, by decide, by decide⟩ ?_
  by_cases hc : 0 ≤ c ∧ c ≤ 255
  · have h1 := hc.1
    have h2 := hc.2
    rw [i_le] at h1 h2
    have z0 : (0 : Int32).toInt = 0 := rfl
    have z1 : (255 : Int32).toInt = 255 := rfl
    have e := nI_ex (x := c) (by omega)
    have ev := ix_vb ⟨c.toInt.toNat, by omega⟩
    simp only at ev
    rw [← e] at ev
    refine V_if_ne dJ1_indexOf_4cfef_4 (fun _ => ?_) (fun z => absurd z ((bI_ne0.mpr hc)))
    refine V_iload_n dJ1_indexOf_4cfef_9 rfl ?_
    refine V_iconst (v := 0) dJ1_indexOf_4cfef_10 (by decide) ?_
    refine V_max dJ1_indexOf_4cfef_11 gmax_J1_92 gmaxS gmaxI gmaxC (Nat.le_of_ble_eq_true rfl) (Nat.le_of_ble_eq_true rfl) (Nat.le_of_ble_eq_true rfl) (Nat.le_of_ble_eq_true rfl) ?_
    refine V_istore_n dJ1_indexOf_4cfef_14 (by decide) (by dsimp only [List.set] <;> rfl) rfl ?_
    refine V_iload_n dJ1_indexOf_4cfef_15 rfl ?_
    refine V_aload_n dJ1_indexOf_4cfef_16 rfl ?_
    refine V_lenV dJ1_indexOf_4cfef_17 ?_
    refine V_min dJ1_indexOf_4cfef_18 gmax_J1_38 gminS gmaxI gminC (Nat.le_of_ble_eq_true rfl) (Nat.le_of_ble_eq_true rfl) (Nat.le_of_ble_eq_true rfl) (Nat.le_of_ble_eq_true rfl) ?_
    refine V_istore_n dJ1_indexOf_4cfef_21 (by decide) (by dsimp only [List.set] <;> rfl) rfl ?_
    refine V_iload_n dJ1_indexOf_4cfef_22 rfl ?_
    refine V_iload_n dJ1_indexOf_4cfef_23 rfl ?_
    refine V_icmp_lt dJ1_indexOf_4cfef_24 (fun _ => ?_) (fun z => absurd (by decide) z)
    refine V_aload_n dJ1_indexOf_4cfef_29 rfl ?_
    refine V_iload_n dJ1_indexOf_4cfef_30 rfl ?_
    refine V_iload_n dJ1_indexOf_4cfef_31 rfl ?_
    refine V_iload_n dJ1_indexOf_4cfef_32 rfl ?_
    refine V_callSr dJ1_indexOf_4cfef_33 kJ1_95 ykJ1_indexOfChar_4cfef (tJ1_indexOfChar c) rfl (Nat.le_of_ble_eq_true rfl) ⟨by decide, by decide, by decide, by decide⟩ ?_
    refine V_iret dJ1_indexOf_4cfef_36 rfl rfl rfl ?_
    exact Rd_i ev
  · refine V_if_ne dJ1_indexOf_4cfef_4 (fun z => absurd z (fun z => z (bI_f hc))) (fun _ => ?_)
    refine V_iconst (v := (-1)) dJ1_indexOf_4cfef_7 (by decide) ?_
    refine V_iret dJ1_indexOf_4cfef_8 rfl rfl rfl ?_
    refine Rd_i ?_
    have hn : vB c = none := by
      unfold vB
      rw [if_neg (fun z => hc (by rw [z]; decide)), if_neg (fun z => hc (by rw [z]; decide)), if_neg (fun z => hc (by rw [z]; decide)), if_neg (fun z => hc (by rw [z]; decide)), if_neg (fun z => hc (by rw [z]; decide)), if_neg (fun z => hc (by rw [z]; decide))]
    unfold vbR
    rw [hn]
theorem tJ0_indexOf2 (c : Int32) : Ct G l yJ0_indexOf_7cf53 cJ0_indexOf_7cf53 3 (some .int) 2 0 0 sz [.ref (sK G), .int c, .int 0] h (Rd (.int (vbR c)) h) := by
  refine Ct.of (own := RJ0) (mn := "indexOf") (L0 := [some (.ref (sK G)), some (.int c), some (.int 0)]) (by decide +kernel) rfl rfl rfl (Nat.le_of_ble_eq_true rfl) rfl ?_
  refine V_aload_n dJ0_indexOf_7cf53_0 rfl ?_
  refine V_callT dJ0_indexOf_7cf53_1 kJ0_492 ykJ0_isLatin1_aae02 rfl tJ0_isLatin1 rfl (Nat.le_of_ble_eq_true rfl) ⟨by decide, by decide, by decide, by decide⟩ ?_
  refine V_if_eq dJ0_indexOf_7cf53_4 (fun z => absurd z (by decide)) (fun _ => ?_)
  refine V_aload_n dJ0_indexOf_7cf53_7 rfl ?_
  refine V_gval dJ0_indexOf_7cf53_8 rfl ?_
  refine V_iload_n dJ0_indexOf_7cf53_11 rfl ?_
  refine V_iload_n dJ0_indexOf_7cf53_12 rfl ?_
  refine V_aload_n dJ0_indexOf_7cf53_13 rfl ?_
  refine V_callT dJ0_indexOf_7cf53_14 kJ0_505 ykJ0_length_8abf5 rfl tJ0_length rfl (Nat.le_of_ble_eq_true rfl) ⟨by decide, by decide, by decide, by decide⟩ ?_
  refine V_callSr dJ0_indexOf_7cf53_17 kJ0_637 ykJ1_indexOf_4cfef (tJ1_indexOf c) rfl (Nat.le_of_ble_eq_true rfl) ⟨by decide, by decide, by decide, by decide⟩ ?_
  refine V_goto dJ0_indexOf_7cf53_20 ?_
  refine V_iret dJ0_indexOf_7cf53_36 rfl rfl rfl ?_
  exact Rd_i rfl
theorem tJ0_indexOf (c : Int32) : Ct G l yJ0_indexOf_0f7a4 cJ0_indexOf_0f7a4 2 (some .int) 3 0 0 sz [.ref (sK G), .int c] h (Rd (.int (vbR c)) h) := by
  refine Ct.of (own := RJ0) (mn := "indexOf") (L0 := [some (.ref (sK G)), some (.int c)]) (by decide +kernel) rfl rfl rfl (Nat.le_of_ble_eq_true rfl) rfl ?_
  refine V_aload_n dJ0_indexOf_0f7a4_0 rfl ?_
  refine V_iload_n dJ0_indexOf_0f7a4_1 rfl ?_
  refine V_iconst (v := 0) dJ0_indexOf_0f7a4_2 (by decide) ?_
  refine V_callT dJ0_indexOf_0f7a4_3 kJ0_633 ykJ0_indexOf_7cf53 rfl (tJ0_indexOf2 c) rfl (Nat.le_of_ble_eq_true rfl) ⟨by decide, by decide, by decide, by decide⟩ ?_
  refine V_iret dJ0_indexOf_0f7a4_6 rfl rfl rfl ?_
  exact Rd_i rfl
end STRI
