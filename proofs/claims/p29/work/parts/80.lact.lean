/-! The law: act. -/
section LAW
variable {G : GT} {l : Launch} {sz a st hd tc op lc : Nat} {tl ll lt : Nat → Nat} {C D E : CT} {h : Hp}
theorem gN_m {m : Nat} (hm : m ≤ 5) : (gN (nI m) = nI 29 ∧ (m = 0 ∨ m = 3 ∨ m = 4)) ∨ (gN (nI m) = nI 99 ∧ (m = 1 ∨ m = 2 ∨ m = 5)) := by
  rcases (show m = 0 ∨ m = 1 ∨ m = 2 ∨ m = 3 ∨ m = 4 ∨ m = 5 by omega) with z | z | z | z | z | z <;> subst z
  · exact Or.inl ⟨rfl, by decide⟩
  · exact Or.inr ⟨rfl, by decide⟩
  · exact Or.inr ⟨rfl, by decide⟩
  · exact Or.inl ⟨rfl, by decide⟩
  · exact Or.inl ⟨rfl, by decide⟩
  · exact Or.inr ⟨rfl, by decide⟩
set_option maxHeartbeats 4000000 in
theorem ac_step {X hw Y : Nat} {O : Int32} (hY : Y < 2147483648) (hJ : JW C st) (hI : Inv (bk C 1) hd tc op lc tl ll lt) (hD : SC C D) : V G l RL "act" cL_act 9 (some .int) (rmd 9 0 0) E0 (Qm G (Rac G a C st) sz 0 0) sz 0 0 30 [some (.ref a), some (.int (nI X)), some (.int (nI hw)), some (.int (nI Y)), some (.int (nI tc)), some (.int O), none, none, none] [] (B G a D) := by
  have e6 : nI Y - nI Y / 6 * 6 = nI (Y % 6) := by
    rw [show (6 : Int32) = nI 6 from rfl, pk_rem hY (by decide) (by decide)]
  have d6 : nI Y / 6 = nI (Y / 6) := by
    rw [show (6 : Int32) = nI 6 from rfl, pk_div hY (by decide) (by decide)]
  have d18 : nI Y / 18 = nI (Y / 18) := by
    rw [show (18 : Int32) = nI 18 from rfl, pk_div hY (by decide) (by decide)]
  have l6 : Y / 6 < 2147483648 := Nat.lt_of_le_of_lt (Nat.div_le_self _ _) hY
  have l18 : Y / 18 < 2147483648 := Nat.lt_of_le_of_lt (Nat.div_le_self _ _) hY
  have a100 : nI (Y / 6) - nI (Y / 6) / 100 * 100 = nI (Y / 6 % 100) := by
    rw [show (100 : Int32) = nI 100 from rfl, pk_rem l6 (by decide) (by decide)]
  have a10 : nI (Y / 6) - nI (Y / 6) / 10 * 10 = nI (Y / 6 % 10) := by
    rw [show (10 : Int32) = nI 10 from rfl, pk_rem l6 (by decide) (by decide)]
  have a3 : nI (Y / 6) - nI (Y / 6) / 3 * 3 = nI (Y / 6 % 3) := by
    rw [show (3 : Int32) = nI 3 from rfl, pk_rem l6 (by decide) (by decide)]
  have b100 : nI (Y / 18) - nI (Y / 18) / 100 * 100 = nI (Y / 18 % 100) := by
    rw [show (100 : Int32) = nI 100 from rfl, pk_rem l18 (by decide) (by decide)]
  have b4 : nI (Y / 18) - nI (Y / 18) / 4 * 4 = nI (Y / 18 % 4) := by
    rw [show (4 : Int32) = nI 4 from rfl, pk_rem l18 (by decide) (by decide)]
  have m1 : Y / 6 % 100 < 100 := Nat.mod_lt _ (by decide)
  have m2 : Y / 6 % 10 < 10 := Nat.mod_lt _ (by decide)
  have m3 : Y / 18 % 100 < 100 := Nat.mod_lt _ (by decide)
  have m4 : Y / 18 % 4 < 4 := Nat.mod_lt _ (by decide)
  have m5 : Y / 6 % 3 < 3 := Nat.mod_lt _ (by decide)
  have hv : Y % 6 ≤ 5 := by
    have := Nat.mod_lt Y (show 0 < 6 by decide)
    omega
  refine V_iload_n dL_act_30 rfl ?_
  refine V_bipush (v := 6) dL_act_31 (by decide) ?_
  refine V_irem dL_act_33 (by decide) ?_
  refine V_toe e6 ?_
  refine V_istore dL_act_34 (by decide) (by dsimp only [List.set] <;> rfl) rfl ?_
  generalize Y % 6 = vb at hv
  have k100 : ∀ (m : Nat) (D : CT), SC C D → m < 100 → inR (nI vb) (nI m) → V G l RL "act" cL_act 9 (some .int) (rmd 9 0 0) E0 (Qm G (Rac G a C st) sz 0 0) sz 0 0 100 [some (.ref a), some (.int (nI X)), some (.int (nI hw)), some (.int (nI Y)), some (.int (nI tc)), some (.int O), some (.int (nI vb)), none, none] [.int (nI m), .int (nI vb), .ref a] (B G a D) := by
    intro m D hD hm hx
    refine V_callS dL_act_100 kL_99 ykL_step (tL_step hv hm hx hJ hI hD) rfl (Nat.le_of_ble_eq_true rfl) ⟨by decide, by decide, by decide, by decide⟩ (fun r h' q => ?_)
    obtain ⟨t, D, rfl, rfl, q⟩ := q
    refine V_iret dL_act_103 rfl rfl rfl ?_
    exact ⟨t, D, rfl, rfl, q⟩
  by_cases h5 : vb = 5
  · refine V_aload_n dL_act_36 rfl ?_
    refine V_iload dL_act_37 rfl ?_
    refine V_iload dL_act_39 rfl ?_
    refine V_iconst (v := 5) dL_act_41 (by decide) ?_
    refine V_icmp_ne dL_act_42 (fun z => absurd z (fun z => z (by rw [h5]; rfl))) (fun _ => ?_)
    refine V_iload_n dL_act_45 rfl ?_
    refine V_bipush (v := 6) dL_act_46 (by decide) ?_
    refine V_idiv dL_act_48 (by decide) ?_
    refine V_toe d6 ?_
    refine V_bipush (v := 100) dL_act_49 (by decide) ?_
    refine V_irem dL_act_51 (by decide) ?_
    refine V_toe a100 ?_
    refine V_goto dL_act_52 ?_
    exact k100 _ D hD m1 ((inR_mk (g := 99) (by rw [h5]; rfl) (by decide) (by omega)).mpr (by omega))
  · refine V_aload_n dL_act_36 rfl ?_
    refine V_iload dL_act_37 rfl ?_
    refine V_iload dL_act_39 rfl ?_
    refine V_iconst (v := 5) dL_act_41 (by decide) ?_
    refine V_icmp_ne dL_act_42 (fun _ => ?_) (fun z => absurd z ((fun z => absurd ((ceq (by repeat (first | with_reducible rfl | with_reducible exact nlit | with_reducible apply nadd | with_reducible apply nmul | with_reducible apply nsub | with_reducible assumption | omega)) (by repeat (first | with_reducible rfl | with_reducible exact nlit | with_reducible apply nadd | with_reducible apply nmul | with_reducible apply nsub | with_reducible assumption | omega)) (by omega) (by omega)).mp z) (by omega))))
    refine V_iload dL_act_55 rfl ?_
    refine V_callSr dL_act_57 kL_39 ykL_greatest (tL_greatest _) rfl (Nat.le_of_ble_eq_true rfl) ⟨by decide, by decide, by decide, by decide⟩ ?_
    rcases gN_m hv with ⟨g1, g2⟩ | ⟨g1, g2⟩
    · refine V_toe g1 ?_
      refine V_bipush (v := 29) dL_act_60 (by decide) ?_
      refine V_icmp_ne dL_act_62 (fun z => absurd z (fun z => z rfl)) (fun _ => ?_)
      refine V_iload_n dL_act_65 rfl ?_
      refine V_bipush (v := 6) dL_act_66 (by decide) ?_
      refine V_idiv dL_act_68 (by decide) ?_
      refine V_toe d6 ?_
      refine V_bipush (v := 10) dL_act_69 (by decide) ?_
      refine V_irem dL_act_71 (by decide) ?_
      refine V_toe a10 ?_
      refine V_goto dL_act_72 ?_
      exact k100 _ D hD (by omega) ((inR_mk g1 (by decide) (by omega)).mpr (by omega))
    · refine V_toe g1 ?_
      refine V_bipush (v := 29) dL_act_60 (by decide) ?_
      refine V_icmp_ne dL_act_62 (fun _ => ?_) (fun z => absurd z ((by decide)))
      refine V_iload_n dL_act_75 rfl ?_
      refine V_bipush (v := 6) dL_act_76 (by decide) ?_
      refine V_idiv dL_act_78 (by decide) ?_
      refine V_toe d6 ?_
      refine V_iconst (v := 3) dL_act_79 (by decide) ?_
      refine V_irem dL_act_80 (by decide) ?_
      refine V_toe a3 ?_
      by_cases h3 : Y / 6 % 3 = 0
      · refine V_if_ne dL_act_81 (fun z => absurd z (fun z => z (by rw [h3]; rfl))) (fun _ => ?_)
        refine V_iload_n dL_act_84 rfl ?_
        refine V_bipush (v := 18) dL_act_85 (by decide) ?_
        refine V_idiv dL_act_87 (by decide) ?_
        refine V_toe d18 ?_
        refine V_bipush (v := 100) dL_act_88 (by decide) ?_
        refine V_irem dL_act_90 (by decide) ?_
        refine V_toe b100 ?_
        refine V_goto dL_act_91 ?_
        exact k100 _ D hD m3 ((inR_mk g1 (by decide) (by omega)).mpr (by omega))
      · refine V_if_ne dL_act_81 (fun _ => ?_) (fun z => absurd z ((fun z => absurd ((ceq (by repeat (first | with_reducible rfl | with_reducible exact nlit | with_reducible apply nadd | with_reducible apply nmul | with_reducible apply nsub | with_reducible assumption | omega)) (by repeat (first | with_reducible rfl | with_reducible exact nlit | with_reducible apply nadd | with_reducible apply nmul | with_reducible apply nsub | with_reducible assumption | omega)) (by omega) (by omega)).mp z) (by omega))))
        refine V_iload_n dL_act_94 rfl ?_
        refine V_bipush (v := 18) dL_act_95 (by decide) ?_
        refine V_idiv dL_act_97 (by decide) ?_
        refine V_toe d18 ?_
        refine V_iconst (v := 4) dL_act_98 (by decide) ?_
        refine V_irem dL_act_99 (by decide) ?_
        refine V_toe b4 ?_
        exact k100 _ D hD (by omega) ((inR_mk g1 (by decide) (by omega)).mpr (by omega))
set_option maxHeartbeats 4000000 in
theorem ac_rec {X hw Y : Nat} {O : Int32} (hO : (op = 0 ∧ O = -5) ∨ (op = 1 ∧ O = nI (tl tc))) (hJ : JW C st) (hI : Inv (bk C 1) hd tc op lc tl ll lt) (hD : SC C D) : V G l RL "act" cL_act 9 (some .int) (rmd 9 0 0) E0 (Qm G (Rac G a C st) sz 0 0) sz 0 0 110 [some (.ref a), some (.int (nI X)), some (.int (nI hw)), some (.int (nI Y)), some (.int (nI tc)), some (.int O), none, none, none] [] (B G a D) := by
  obtain ⟨c1, c2, c3, c4⟩ := iv_tc hI
  have hst := hJ.1
  rcases hO with ⟨ho, hO⟩ | ⟨ho, hO⟩
  · by_cases h6 : tc < 6
    · refine V_aload_n dL_act_110 rfl ?_
      refine V_rm dL_act_111 kL_57 ykX6_record rfl (m_record ho h6 hJ hI hD) rfl (Nat.le_of_ble_eq_true rfl) ⟨by decide, by decide, by decide, by decide⟩ (fun D hP => ?_)
      refine V_istore dL_act_114 (by decide) (by dsimp only [List.set] <;> rfl) rfl ?_
      refine V_iload dL_act_116 rfl ?_
      refine V_iload dL_act_118 rfl ?_
      refine V_bipush (v := (-5)) dL_act_120 (by decide) ?_
      obtain ⟨hP, hI'⟩ := hP
      obtain ⟨E, hE⟩ : ∃ E, E = D := ⟨_, rfl⟩
      rw [← hE] at hP hI'
      rw [← hE]
      have hD : SC E E := SC.rf
      refine V_icmp_eq dL_act_122 (fun _ => ?_) (fun z => absurd hO z)
      refine V_iload dL_act_130 rfl ?_
      refine V_bipush (v := 6) dL_act_132 (by decide) ?_
      refine V_icmp_ne dL_act_134 (fun _ => ?_) (fun z => absurd z ((fun z => absurd ((ceq (by repeat (first | with_reducible rfl | with_reducible exact nlit | with_reducible apply nadd | with_reducible apply nmul | with_reducible apply nsub | with_reducible assumption | omega)) (by repeat (first | with_reducible rfl | with_reducible exact nlit | with_reducible apply nadd | with_reducible apply nmul | with_reducible apply nsub | with_reducible assumption | omega)) (by omega) (by omega)).mp z) (by omega))))
      refine V_iload dL_act_142 rfl ?_
      refine V_icmp_ne dL_act_144 (fun z => absurd z (fun z => z rfl)) (fun _ => ?_)
      refine V_iload dL_act_147 rfl ?_
      refine V_if_lt dL_act_149 (fun z => absurd z (fun z => absurd ((clt (by repeat (first | with_reducible rfl | with_reducible exact nlit | with_reducible apply nadd | with_reducible apply nmul | with_reducible apply nsub | with_reducible assumption | omega)) (by repeat (first | with_reducible rfl | with_reducible exact nlit | with_reducible apply nadd | with_reducible apply nmul | with_reducible apply nsub | with_reducible assumption | omega)) (by omega) (by omega)).mp z) (by omega))) (fun _ => ?_)
      refine V_aload_n dL_act_152 rfl ?_
      refine V_iconst (v := 3) dL_act_153 (by decide) ?_
      refine V_rq dL_act_154 kL_20 ykX6_total rfl (Rq_e (by rw [nup_s]) (q_tot3_1 rfl hI' hD)) rfl (Nat.le_of_ble_eq_true rfl) ⟨by decide, by decide, by decide, by decide⟩ (fun D hD => ?_)
      refine V_if_ne dL_act_157 (fun z => absurd z (fun z => z rfl)) (fun _ => ?_)
      refine V_iload dL_act_160 rfl ?_
      refine V_goto dL_act_162 ?_
      refine V_iret dL_act_167 rfl rfl rfl ?_
      exact rac_r (nz (by omega)) hst hP hI' hD
    · refine V_aload_n dL_act_110 rfl ?_
      refine V_rq dL_act_111 kL_57 ykX6_record rfl (q_record_f ho (by omega) hI hD) rfl (Nat.le_of_ble_eq_true rfl) ⟨by decide, by decide, by decide, by decide⟩ (fun D hD => ?_)
      refine V_istore dL_act_114 (by decide) (by dsimp only [List.set] <;> rfl) rfl ?_
      refine V_iload dL_act_116 rfl ?_
      refine V_iload dL_act_118 rfl ?_
      refine V_bipush (v := (-5)) dL_act_120 (by decide) ?_
      refine V_icmp_eq dL_act_122 (fun _ => ?_) (fun z => absurd hO z)
      refine V_iload dL_act_130 rfl ?_
      refine V_bipush (v := 6) dL_act_132 (by decide) ?_
      refine V_icmp_ne dL_act_134 (fun z => absurd z (fun z => z ((ceq (by repeat (first | with_reducible rfl | with_reducible exact nlit | with_reducible apply nadd | with_reducible apply nmul | with_reducible apply nsub | with_reducible assumption | omega)) (by repeat (first | with_reducible rfl | with_reducible exact nlit | with_reducible apply nadd | with_reducible apply nmul | with_reducible apply nsub | with_reducible assumption | omega)) (by omega) (by omega)).mpr (by omega)))) (fun _ => ?_)
      refine V_bipush (v := (-3)) dL_act_137 (by decide) ?_
      refine V_goto dL_act_139 ?_
      refine V_icmp_ne dL_act_144 (fun z => absurd z (fun z => z rfl)) (fun _ => ?_)
      refine V_iload dL_act_147 rfl ?_
      refine V_if_lt dL_act_149 (fun _ => ?_) (fun z => absurd (by decide) z)
      refine V_iload dL_act_160 rfl ?_
      refine V_goto dL_act_162 ?_
      refine V_iret dL_act_167 rfl rfl rfl ?_
      exact rac_l (by decide) hD
  · have ht := (iv_tr hI (i := tc) (by omega)).2.1
    refine V_aload_n dL_act_110 rfl ?_
    refine V_rq dL_act_111 kL_57 ykX6_record rfl (q_record_o ho hI hD) rfl (Nat.le_of_ble_eq_true rfl) ⟨by decide, by decide, by decide, by decide⟩ (fun D hD => ?_)
    refine V_istore dL_act_114 (by decide) (by dsimp only [List.set] <;> rfl) rfl ?_
    refine V_iload dL_act_116 rfl ?_
    refine V_iload dL_act_118 rfl ?_
    refine V_bipush (v := (-5)) dL_act_120 (by decide) ?_
    refine V_icmp_eq dL_act_122 (fun z => absurd z (by rw [hO]; exact n5 (by omega))) (fun _ => ?_)
    refine V_bipush (v := (-4)) dL_act_125 (by decide) ?_
    refine V_goto dL_act_127 ?_
    refine V_icmp_ne dL_act_144 (fun z => absurd z (fun z => z rfl)) (fun _ => ?_)
    refine V_iload dL_act_147 rfl ?_
    refine V_if_lt dL_act_149 (fun _ => ?_) (fun z => absurd (by decide) z)
    refine V_iload dL_act_160 rfl ?_
    refine V_goto dL_act_162 ?_
    refine V_iret dL_act_167 rfl rfl rfl ?_
    exact rac_l (by decide) hD
set_option maxHeartbeats 4000000 in
theorem ac_end {X hw Y : Nat} {O : Int32} (hO : (op = 0 ∧ O = -5) ∨ (op = 1 ∧ O = nI (tl tc))) (hJ : JW C st) (hI : Inv (bk C 1) hd tc op lc tl ll lt) (hD : SC C D) : V G l RL "act" cL_act 9 (some .int) (rmd 9 0 0) E0 (Qm G (Rac G a C st) sz 0 0) sz 0 0 174 [some (.ref a), some (.int (nI X)), some (.int (nI hw)), some (.int (nI Y)), some (.int (nI tc)), some (.int O), none, none, none] [] (B G a D) := by
  obtain ⟨c1, c2, c3, c4⟩ := iv_tc hI
  have hst := hJ.1
  rcases hO with ⟨ho, hO⟩ | ⟨ho, hO⟩
  · refine V_aload_n dL_act_174 rfl ?_
    refine V_rq dL_act_175 kL_61 ykX6_end rfl (q_end_o ho hI hD) rfl (Nat.le_of_ble_eq_true rfl) ⟨by decide, by decide, by decide, by decide⟩ (fun D hD => ?_)
    refine V_istore dL_act_178 (by decide) (by dsimp only [List.set] <;> rfl) rfl ?_
    refine V_iload dL_act_180 rfl ?_
    refine V_iload dL_act_182 rfl ?_
    refine V_bipush (v := (-5)) dL_act_184 (by decide) ?_
    refine V_icmp_ne dL_act_186 (fun z => absurd z (fun z => z hO)) (fun _ => ?_)
    refine V_bipush (v := (-4)) dL_act_189 (by decide) ?_
    refine V_goto dL_act_191 ?_
    refine V_icmp_ne dL_act_206 (fun z => absurd z (fun z => z rfl)) (fun _ => ?_)
    refine V_aload_n dL_act_209 rfl ?_
    refine V_iconst (v := 3) dL_act_210 (by decide) ?_
    refine V_rq dL_act_211 kL_20 ykX6_total rfl (q_tot3_0 ho hI hD) rfl (Nat.le_of_ble_eq_true rfl) ⟨by decide, by decide, by decide, by decide⟩ (fun D hD => ?_)
    refine V_bipush (v := (-5)) dL_act_214 (by decide) ?_
    refine V_icmp_ne dL_act_216 (fun z => absurd z (fun z => z rfl)) (fun _ => ?_)
    refine V_aload_n dL_act_219 rfl ?_
    refine V_iconst (v := 2) dL_act_220 (by decide) ?_
    refine V_rq dL_act_221 kL_20 ykX6_total rfl (q_tot2 hI hD) rfl (Nat.le_of_ble_eq_true rfl) ⟨by decide, by decide, by decide, by decide⟩ (fun D hD => ?_)
    refine V_iload dL_act_224 rfl ?_
    refine V_iload dL_act_226 rfl ?_
    refine V_if_le dL_act_228 (fun _ => ?_) (fun z => absurd (by rw [hO]; decide) z)
    refine V_iconst (v := 0) dL_act_235 (by decide) ?_
    refine V_iadd dL_act_236 ?_
    refine V_icmp_ne dL_act_237 (fun z => absurd z (fun z => z (i_add0 _).symm)) (fun _ => ?_)
    refine V_iload dL_act_240 rfl ?_
    refine V_goto dL_act_242 ?_
    refine V_iret dL_act_247 rfl rfl rfl ?_
    exact rac_l (by decide) hD
  · have ht := (iv_tr hI (i := tc) (by omega)).2.1
    by_cases hl : tl tc = 0
    · refine V_aload_n dL_act_174 rfl ?_
      refine V_rm dL_act_175 kL_61 ykX6_end rfl (m_end_0 ho hl hJ hI hD) rfl (Nat.le_of_ble_eq_true rfl) ⟨by decide, by decide, by decide, by decide⟩ (fun D hP => ?_)
      refine V_istore dL_act_178 (by decide) (by dsimp only [List.set] <;> rfl) rfl ?_
      refine V_iload dL_act_180 rfl ?_
      refine V_iload dL_act_182 rfl ?_
      refine V_bipush (v := (-5)) dL_act_184 (by decide) ?_
      obtain ⟨hP, hI'⟩ := hP
      obtain ⟨E, hE⟩ : ∃ E, E = D := ⟨_, rfl⟩
      rw [← hE] at hP hI'
      rw [← hE]
      have hD : SC E E := SC.rf
      refine V_icmp_ne dL_act_186 (fun _ => ?_) (fun z => absurd z ((by rw [hO]; exact n5 (by omega))))
      refine V_iload dL_act_194 rfl ?_
      refine V_if_ne dL_act_196 (fun z => absurd z (fun z => z (by rw [hO, hl]; rfl))) (fun _ => ?_)
      refine V_bipush (v := 100) dL_act_199 (by decide) ?_
      refine V_goto dL_act_201 ?_
      refine V_icmp_ne dL_act_206 (fun z => absurd z (fun z => z rfl)) (fun _ => ?_)
      refine V_aload_n dL_act_209 rfl ?_
      refine V_iconst (v := 3) dL_act_210 (by decide) ?_
      refine V_rq dL_act_211 kL_20 ykX6_total rfl (q_tot3_0 rfl hI' hD) rfl (Nat.le_of_ble_eq_true rfl) ⟨by decide, by decide, by decide, by decide⟩ (fun D hD => ?_)
      refine V_bipush (v := (-5)) dL_act_214 (by decide) ?_
      refine V_icmp_ne dL_act_216 (fun z => absurd z (fun z => z rfl)) (fun _ => ?_)
      refine V_aload_n dL_act_219 rfl ?_
      refine V_iconst (v := 2) dL_act_220 (by decide) ?_
      refine V_rq dL_act_221 kL_20 ykX6_total rfl (q_tot2 hI' hD) rfl (Nat.le_of_ble_eq_true rfl) ⟨by decide, by decide, by decide, by decide⟩ (fun D hD => ?_)
      refine V_iload dL_act_224 rfl ?_
      refine V_iload dL_act_226 rfl ?_
      refine V_if_le dL_act_228 (fun _ => ?_) (fun z => absurd (by rw [hO, hl]; decide) z)
      refine V_iconst (v := 0) dL_act_235 (by decide) ?_
      refine V_iadd dL_act_236 ?_
      refine V_icmp_ne dL_act_237 (fun z => absurd z (fun z => z (i_add0 _).symm)) (fun _ => ?_)
      refine V_iload dL_act_240 rfl ?_
      refine V_goto dL_act_242 ?_
      refine V_iret dL_act_247 rfl rfl rfl ?_
      exact rac_r (by decide) hst hP hI' hD
    · refine V_aload_n dL_act_174 rfl ?_
      refine V_rm dL_act_175 kL_61 ykX6_end rfl (m_end ho hl hJ hI hD) rfl (Nat.le_of_ble_eq_true rfl) ⟨by decide, by decide, by decide, by decide⟩ (fun D hP => ?_)
      refine V_istore dL_act_178 (by decide) (by dsimp only [List.set] <;> rfl) rfl ?_
      refine V_iload dL_act_180 rfl ?_
      refine V_iload dL_act_182 rfl ?_
      refine V_bipush (v := (-5)) dL_act_184 (by decide) ?_
      obtain ⟨hP, hI'⟩ := hP
      obtain ⟨E, hE⟩ : ∃ E, E = D := ⟨_, rfl⟩
      rw [← hE] at hP hI'
      rw [← hE]
      have hD : SC E E := SC.rf
      refine V_icmp_ne dL_act_186 (fun _ => ?_) (fun z => absurd z ((by rw [hO]; exact n5 (by omega))))
      refine V_iload dL_act_194 rfl ?_
      refine V_toe hO ?_
      refine V_if_ne dL_act_196 (fun _ => ?_) (fun z => absurd z ((fun z => absurd ((ceq (by repeat (first | with_reducible rfl | with_reducible exact nlit | with_reducible apply nadd | with_reducible apply nmul | with_reducible apply nsub | with_reducible assumption | omega)) (by repeat (first | with_reducible rfl | with_reducible exact nlit | with_reducible apply nadd | with_reducible apply nmul | with_reducible apply nsub | with_reducible assumption | omega)) (by omega) (by omega)).mp z) (by omega))))
      refine V_iload dL_act_204 rfl ?_
      refine V_icmp_ne dL_act_206 (fun z => absurd z (fun z => z rfl)) (fun _ => ?_)
      refine V_aload_n dL_act_209 rfl ?_
      refine V_iconst (v := 3) dL_act_210 (by decide) ?_
      refine V_rq dL_act_211 kL_20 ykX6_total rfl (q_tot3_0 rfl hI' hD) rfl (Nat.le_of_ble_eq_true rfl) ⟨by decide, by decide, by decide, by decide⟩ (fun D hD => ?_)
      refine V_bipush (v := (-5)) dL_act_214 (by decide) ?_
      refine V_icmp_ne dL_act_216 (fun z => absurd z (fun z => z rfl)) (fun _ => ?_)
      refine V_aload_n dL_act_219 rfl ?_
      refine V_iconst (v := 2) dL_act_220 (by decide) ?_
      refine V_rq dL_act_221 kL_20 ykX6_total rfl (q_tot2 hI' hD) rfl (Nat.le_of_ble_eq_true rfl) ⟨by decide, by decide, by decide, by decide⟩ (fun D hD => ?_)
      refine V_iload dL_act_224 rfl ?_
      refine V_iload dL_act_226 rfl ?_
      refine V_toe hO ?_
      refine V_if_le dL_act_228 (fun z => absurd z (fun z => absurd ((cle (by repeat (first | with_reducible rfl | with_reducible exact nlit | with_reducible apply nadd | with_reducible apply nmul | with_reducible apply nsub | with_reducible assumption | omega)) (by repeat (first | with_reducible rfl | with_reducible exact nlit | with_reducible apply nadd | with_reducible apply nmul | with_reducible apply nsub | with_reducible assumption | omega)) (by omega) (by omega)).mp z) (by omega))) (fun _ => ?_)
      refine V_iconst (v := 1) dL_act_231 (by decide) ?_
      refine V_goto dL_act_232 ?_
      refine V_iadd dL_act_236 ?_
      refine V_icmp_ne dL_act_237 (fun z => absurd z (fun z => z ((ceq (by repeat (first | with_reducible rfl | with_reducible exact nlit | with_reducible apply nadd | with_reducible apply nmul | with_reducible apply nsub | with_reducible assumption | omega)) (by repeat (first | with_reducible rfl | with_reducible exact nlit | with_reducible apply nadd | with_reducible apply nmul | with_reducible apply nsub | with_reducible assumption | omega)) (by omega) (by omega)).mpr (by omega)))) (fun _ => ?_)
      refine V_iload dL_act_240 rfl ?_
      refine V_goto dL_act_242 ?_
      refine V_iret dL_act_247 rfl rfl rfl ?_
      exact rac_r (nz (by omega)) hst hP hI' hD
set_option maxHeartbeats 4000000 in
theorem ac_drop {X hw Y : Nat} {O : Int32} (hY : Y < 2147483648) (hO : (op = 0 ∧ O = -5) ∨ (op = 1 ∧ O = nI (tl tc))) (hJ : JW C st) (hI : Inv (bk C 1) hd tc op lc tl ll lt) (hD : SC C D) : V G l RL "act" cL_act 9 (some .int) (rmd 9 0 0) E0 (Qm G (Rac G a C st) sz 0 0) sz 0 0 254 [some (.ref a), some (.int (nI X)), some (.int (nI hw)), some (.int (nI Y)), some (.int (nI tc)), some (.int O), none, none, none] [] (B G a D) := by
  obtain ⟨c1, c2, c3, c4⟩ := iv_tc hI
  have hst := hJ.1
  have e7 : nI Y - nI Y / 7 * 7 = nI (Y % 7) := by
    rw [show (7 : Int32) = nI 7 from rfl, pk_rem hY (by decide) (by decide)]
  have hp : Y % 7 < 7 := Nat.mod_lt _ (by decide)
  refine V_iload_n dL_act_254 rfl ?_
  refine V_bipush (v := 7) dL_act_255 (by decide) ?_
  refine V_irem dL_act_257 (by decide) ?_
  refine V_toe e7 ?_
  refine V_istore dL_act_258 (by decide) (by dsimp only [List.set] <;> rfl) rfl ?_
  refine V_aload_n dL_act_260 rfl ?_
  refine V_iload dL_act_261 rfl ?_
  refine V_iconst (v := 1) dL_act_263 (by decide) ?_
  refine V_iadd dL_act_264 ?_
  generalize Y % 7 = p at hp
  refine V_toe (ninc p) ?_
  by_cases hpl : p < tc
  · obtain ⟨w, hw⟩ : ∃ w : Int32, (p + 1 < tc → w = nI (tl (p + 1))) ∧ (¬ p + 1 < tc → w = -1) := ⟨if p + 1 < tc then nI (tl (p + 1)) else -1, fun z => if_pos z, fun z => if_neg z⟩
    have hq : ∀ D, SC C D → Ct G l yX6_length cX6_length 3 (some .int) 1 0 0 (sz + 0) [.ref a, .int (nI (p + 1)), .int 0] (B G a D) (Rq G a C w) := fun D hD => by
      by_cases hp1 : p + 1 < tc
      · rw [hw.1 hp1]
        exact q_len0 hp1 hI hD
      · rw [hw.2 hp1]
        exact q_len0_o (nIx (Nat.not_lt.mp hp1) (by omega)) hI hD
    refine V_iconst (v := 0) dL_act_265 (by decide) ?_
    refine V_rq dL_act_266 kL_27 ykX6_length rfl (hq _ hD) rfl (Nat.le_of_ble_eq_true rfl) ⟨by decide, by decide, by decide, by decide⟩ (fun D hD => ?_)
    refine V_istore dL_act_269 (by decide) (by dsimp only [List.set] <;> rfl) rfl ?_
    refine V_aload_n dL_act_271 rfl ?_
    refine V_iload dL_act_272 rfl ?_
    refine V_rm dL_act_274 kL_64 ykX6_dropTry rfl (m_dropTry hpl hJ hI hD) rfl (Nat.le_of_ble_eq_true rfl) ⟨by decide, by decide, by decide, by decide⟩ (fun D hP => ?_)
    refine V_istore dL_act_277 (by decide) (by dsimp only [List.set] <;> rfl) rfl ?_
    refine V_iload dL_act_279 rfl ?_
    refine V_iload dL_act_281 rfl ?_
    refine V_iload dL_act_283 rfl ?_
    obtain ⟨hP, hI'⟩ := hP
    obtain ⟨E, hE⟩ : ∃ E, E = D := ⟨_, rfl⟩
    rw [← hE] at hP hI'
    rw [← hE]
    have hD : SC E E := SC.rf
    have hr : ∀ D, SC E D → Ct G l yX6_length cX6_length 3 (some .int) 1 0 0 (sz + 0) [.ref a, .int (nI p), .int 0] (B G a D) (Rq G a E w) := fun D hD => by
      by_cases hp1 : p + 1 < tc
      · rw [hw.1 hp1]
        exact Rq_e (by unfold nsh; rw [if_neg (Nat.lt_irrefl p)]) (q_len0 (n := p) (by omega) hI' hD)
      · rw [hw.2 hp1]
        exact q_len0_o (nIx (by omega) (by omega)) hI' hD
    have ht : ∀ D, SC E D → Ct G l yX6_total cX6_total 2 (some .int) 4 0 0 (sz + 0) [.ref a, .int 3] (B G a D) (Rq G a E O) := fun D hD => by
      rcases hO with ⟨ho, hO⟩ | ⟨ho, hO⟩
      · rw [hO]
        exact q_tot3_0 ho hI' hD
      · rw [hO]
        exact Rq_e (by unfold nsh; rw [if_neg (by omega), show tc - 1 + 1 = tc by omega]) (q_tot3_1 ho hI' hD)
    refine V_icmp_lt dL_act_285 (fun _ => ?_) (fun z => absurd ((clt (by repeat (first | with_reducible rfl | with_reducible exact nlit | with_reducible apply nadd | with_reducible apply nmul | with_reducible apply nsub | with_reducible assumption | omega)) (by repeat (first | with_reducible rfl | with_reducible exact nlit | with_reducible apply nadd | with_reducible apply nmul | with_reducible apply nsub | with_reducible assumption | omega)) (by omega) (by omega)).mpr (by omega)) z)
    refine V_iload dL_act_292 rfl ?_
    refine V_iconst (v := 1) dL_act_294 (by decide) ?_
    refine V_isub dL_act_295 ?_
    refine V_toe (nsub (n := 1) rfl rfl (by omega)) ?_
    refine V_icmp_ne dL_act_296 (fun z => absurd z (fun z => z rfl)) (fun _ => ?_)
    refine V_iload dL_act_299 rfl ?_
    refine V_if_lt dL_act_301 (fun z => absurd z (fun z => absurd ((clt (by repeat (first | with_reducible rfl | with_reducible exact nlit | with_reducible apply nadd | with_reducible apply nmul | with_reducible apply nsub | with_reducible assumption | omega)) (by repeat (first | with_reducible rfl | with_reducible exact nlit | with_reducible apply nadd | with_reducible apply nmul | with_reducible apply nsub | with_reducible assumption | omega)) (by omega) (by omega)).mp z) (by omega))) (fun _ => ?_)
    refine V_aload_n dL_act_304 rfl ?_
    refine V_iload dL_act_305 rfl ?_
    refine V_iconst (v := 0) dL_act_307 (by decide) ?_
    refine V_rq dL_act_308 kL_27 ykX6_length rfl (hr _ hD) rfl (Nat.le_of_ble_eq_true rfl) ⟨by decide, by decide, by decide, by decide⟩ (fun D hD => ?_)
    refine V_iload dL_act_311 rfl ?_
    refine V_icmp_ne dL_act_313 (fun z => absurd z (fun z => z rfl)) (fun _ => ?_)
    refine V_aload_n dL_act_316 rfl ?_
    refine V_iconst (v := 3) dL_act_317 (by decide) ?_
    refine V_rq dL_act_318 kL_20 ykX6_total rfl (ht _ hD) rfl (Nat.le_of_ble_eq_true rfl) ⟨by decide, by decide, by decide, by decide⟩ (fun D hD => ?_)
    refine V_iload dL_act_321 rfl ?_
    refine V_icmp_ne dL_act_323 (fun z => absurd z (fun z => z rfl)) (fun _ => ?_)
    refine V_iload dL_act_326 rfl ?_
    refine V_goto dL_act_328 ?_
    refine V_iret dL_act_333 rfl rfl rfl ?_
    exact rac_r (nz (by omega)) hst hP hI' hD
  · refine V_iconst (v := 0) dL_act_265 (by decide) ?_
    refine V_rq dL_act_266 kL_27 ykX6_length rfl (q_len0_o (nIx (by omega) (by omega)) hI hD) rfl (Nat.le_of_ble_eq_true rfl) ⟨by decide, by decide, by decide, by decide⟩ (fun D hD => ?_)
    refine V_istore dL_act_269 (by decide) (by dsimp only [List.set] <;> rfl) rfl ?_
    refine V_aload_n dL_act_271 rfl ?_
    refine V_iload dL_act_272 rfl ?_
    refine V_rq dL_act_274 kL_64 ykX6_dropTry rfl (q_dropTry_o (nI p) (nIx (Nat.not_lt.mp hpl) (by omega)) hI hD) rfl (Nat.le_of_ble_eq_true rfl) ⟨by decide, by decide, by decide, by decide⟩ (fun D hD => ?_)
    refine V_istore dL_act_277 (by decide) (by dsimp only [List.set] <;> rfl) rfl ?_
    refine V_iload dL_act_279 rfl ?_
    refine V_iload dL_act_281 rfl ?_
    refine V_iload dL_act_283 rfl ?_
    refine V_icmp_lt dL_act_285 (fun z => absurd z (fun z => absurd ((clt (by repeat (first | with_reducible rfl | with_reducible exact nlit | with_reducible apply nadd | with_reducible apply nmul | with_reducible apply nsub | with_reducible assumption | omega)) (by repeat (first | with_reducible rfl | with_reducible exact nlit | with_reducible apply nadd | with_reducible apply nmul | with_reducible apply nsub | with_reducible assumption | omega)) (by omega) (by omega)).mp z) (by omega))) (fun _ => ?_)
    refine V_iconst (v := (-1)) dL_act_288 (by decide) ?_
    refine V_goto dL_act_289 ?_
    refine V_icmp_ne dL_act_296 (fun z => absurd z (fun z => z rfl)) (fun _ => ?_)
    refine V_iload dL_act_299 rfl ?_
    refine V_if_lt dL_act_301 (fun _ => ?_) (fun z => absurd (by decide) z)
    refine V_iload dL_act_326 rfl ?_
    refine V_goto dL_act_328 ?_
    refine V_iret dL_act_333 rfl rfl rfl ?_
    exact rac_l (by decide) hD
set_option maxHeartbeats 4000000 in
theorem tL_act {X : Nat} (hX : X < 2147483648) (hJ : JW C st) (hI : Inv (bk C 1) hd tc op lc tl ll lt) (hD : SC C D) : Ct G l yL_act cL_act 9 (some .int) 9 0 0 sz [.ref a, .int (nI X)] (B G a D) (Rac G a C st) := by
  obtain ⟨c1, c2, c3, c4⟩ := iv_tc hI
  have e16 : nI X - nI X / 16 * 16 = nI (X % 16) := by
    rw [show (16 : Int32) = nI 16 from rfl, pk_rem hX (by decide) (by decide)]
  have d16 : nI X / 16 = nI (X / 16) := by
    rw [show (16 : Int32) = nI 16 from rfl, pk_div hX (by decide) (by decide)]
  have hw16 : X % 16 < 16 := Nat.mod_lt _ (by decide)
  have hY : X / 16 < 2147483648 := Nat.lt_of_le_of_lt (Nat.div_le_self _ _) hX
  generalize X / 16 = Y at d16 hY
  generalize X % 16 = hw at e16 hw16
  have k24 : ∀ (O : Int32) (D : CT), SC C D → ((op = 0 ∧ O = -5) ∨ (op = 1 ∧ O = nI (tl tc))) → V G l RL "act" cL_act 9 (some .int) (rmd 9 0 0) E0 (Qm G (Rac G a C st) sz 0 0) sz 0 0 24 [some (.ref a), some (.int (nI X)), some (.int (nI hw)), some (.int (nI Y)), some (.int (nI tc)), some (.int O), none, none, none] [] (B G a D) := by
    intro O D hD hO
    by_cases h6 : hw < 6
    · refine V_iload_n dL_act_24 rfl ?_
      refine V_bipush (v := 6) dL_act_25 (by decide) ?_
      refine V_icmp_ge dL_act_27 (fun z => absurd z (fun z => absurd ((cle (by repeat (first | with_reducible rfl | with_reducible exact nlit | with_reducible apply nadd | with_reducible apply nmul | with_reducible apply nsub | with_reducible assumption | omega)) (by repeat (first | with_reducible rfl | with_reducible exact nlit | with_reducible apply nadd | with_reducible apply nmul | with_reducible apply nsub | with_reducible assumption | omega)) (by omega) (by omega)).mp z) (by omega))) (fun _ => ?_)
      exact ac_step hY hJ hI hD
    · refine V_iload_n dL_act_24 rfl ?_
      refine V_bipush (v := 6) dL_act_25 (by decide) ?_
      refine V_icmp_ge dL_act_27 (fun _ => ?_) (fun z => absurd ((cle (by repeat (first | with_reducible rfl | with_reducible exact nlit | with_reducible apply nadd | with_reducible apply nmul | with_reducible apply nsub | with_reducible assumption | omega)) (by repeat (first | with_reducible rfl | with_reducible exact nlit | with_reducible apply nadd | with_reducible apply nmul | with_reducible apply nsub | with_reducible assumption | omega)) (by omega) (by omega)).mpr (by omega)) z)
      by_cases h8 : hw < 8
      · refine V_iload_n dL_act_104 rfl ?_
        refine V_bipush (v := 8) dL_act_105 (by decide) ?_
        refine V_icmp_ge dL_act_107 (fun z => absurd z (fun z => absurd ((cle (by repeat (first | with_reducible rfl | with_reducible exact nlit | with_reducible apply nadd | with_reducible apply nmul | with_reducible apply nsub | with_reducible assumption | omega)) (by repeat (first | with_reducible rfl | with_reducible exact nlit | with_reducible apply nadd | with_reducible apply nmul | with_reducible apply nsub | with_reducible assumption | omega)) (by omega) (by omega)).mp z) (by omega))) (fun _ => ?_)
        exact ac_rec hO hJ hI hD
      · refine V_iload_n dL_act_104 rfl ?_
        refine V_bipush (v := 8) dL_act_105 (by decide) ?_
        refine V_icmp_ge dL_act_107 (fun _ => ?_) (fun z => absurd ((cle (by repeat (first | with_reducible rfl | with_reducible exact nlit | with_reducible apply nadd | with_reducible apply nmul | with_reducible apply nsub | with_reducible assumption | omega)) (by repeat (first | with_reducible rfl | with_reducible exact nlit | with_reducible apply nadd | with_reducible apply nmul | with_reducible apply nsub | with_reducible assumption | omega)) (by omega) (by omega)).mpr (by omega)) z)
        by_cases h10 : hw < 10
        · refine V_iload_n dL_act_168 rfl ?_
          refine V_bipush (v := 10) dL_act_169 (by decide) ?_
          refine V_icmp_ge dL_act_171 (fun z => absurd z (fun z => absurd ((cle (by repeat (first | with_reducible rfl | with_reducible exact nlit | with_reducible apply nadd | with_reducible apply nmul | with_reducible apply nsub | with_reducible assumption | omega)) (by repeat (first | with_reducible rfl | with_reducible exact nlit | with_reducible apply nadd | with_reducible apply nmul | with_reducible apply nsub | with_reducible assumption | omega)) (by omega) (by omega)).mp z) (by omega))) (fun _ => ?_)
          exact ac_end hO hJ hI hD
        · refine V_iload_n dL_act_168 rfl ?_
          refine V_bipush (v := 10) dL_act_169 (by decide) ?_
          refine V_icmp_ge dL_act_171 (fun _ => ?_) (fun z => absurd ((cle (by repeat (first | with_reducible rfl | with_reducible exact nlit | with_reducible apply nadd | with_reducible apply nmul | with_reducible apply nsub | with_reducible assumption | omega)) (by repeat (first | with_reducible rfl | with_reducible exact nlit | with_reducible apply nadd | with_reducible apply nmul | with_reducible apply nsub | with_reducible assumption | omega)) (by omega) (by omega)).mpr (by omega)) z)
          by_cases h11 : hw = 10
          · refine V_iload_n dL_act_248 rfl ?_
            refine V_bipush (v := 10) dL_act_249 (by decide) ?_
            refine V_icmp_ne dL_act_251 (fun z => absurd z (fun z => z ((ceq (by repeat (first | with_reducible rfl | with_reducible exact nlit | with_reducible apply nadd | with_reducible apply nmul | with_reducible apply nsub | with_reducible assumption | omega)) (by repeat (first | with_reducible rfl | with_reducible exact nlit | with_reducible apply nadd | with_reducible apply nmul | with_reducible apply nsub | with_reducible assumption | omega)) (by omega) (by omega)).mpr (by omega)))) (fun _ => ?_)
            exact ac_drop hY hO hJ hI hD
          · refine V_iload_n dL_act_248 rfl ?_
            refine V_bipush (v := 10) dL_act_249 (by decide) ?_
            refine V_icmp_ne dL_act_251 (fun _ => ?_) (fun z => absurd z ((fun z => absurd ((ceq (by repeat (first | with_reducible rfl | with_reducible exact nlit | with_reducible apply nadd | with_reducible apply nmul | with_reducible apply nsub | with_reducible assumption | omega)) (by repeat (first | with_reducible rfl | with_reducible exact nlit | with_reducible apply nadd | with_reducible apply nmul | with_reducible apply nsub | with_reducible assumption | omega)) (by omega) (by omega)).mp z) (by omega))))
            refine V_aload_n dL_act_334 rfl ?_
            refine V_iload_n dL_act_335 rfl ?_
            refine V_bipush (v := 11) dL_act_336 (by decide) ?_
            refine V_isub dL_act_338 ?_
            refine V_toe (nsub (n := 11) rfl rfl (by omega)) ?_
            refine V_iload_n dL_act_339 rfl ?_
            refine V_callS dL_act_340 kL_102 ykL_loops (tL_loops hY (by omega) hJ hI hD) rfl (Nat.le_of_ble_eq_true rfl) ⟨by decide, by decide, by decide, by decide⟩ (fun r h' q => ?_)
            obtain ⟨t, D, rfl, rfl, q⟩ := q
            refine V_iret dL_act_343 rfl rfl rfl ?_
            exact ⟨t, D, rfl, rfl, q⟩
  refine Ct.of (own := RL) (mn := "act") (L0 := [some (.ref a), some (.int (nI X)), none, none, none, none, none, none, none]) (by decide +kernel) rfl rfl rfl (Nat.le_of_ble_eq_true rfl) rfl ?_
  refine V_iload_n dL_act_0 rfl ?_
  refine V_bipush (v := 16) dL_act_1 (by decide) ?_
  refine V_irem dL_act_3 (by decide) ?_
  refine V_toe e16 ?_
  refine V_istore_n dL_act_4 (by decide) (by dsimp only [List.set] <;> rfl) rfl ?_
  refine V_iload_n dL_act_5 rfl ?_
  refine V_bipush (v := 16) dL_act_6 (by decide) ?_
  refine V_idiv dL_act_8 (by decide) ?_
  refine V_toe d16 ?_
  rcases c4 with ho | ⟨ho, -⟩
  · refine V_istore_n dL_act_9 (by decide) (by dsimp only [List.set] <;> rfl) rfl ?_
    refine V_aload_n dL_act_10 rfl ?_
    refine V_iconst (v := 2) dL_act_11 (by decide) ?_
    refine V_rq dL_act_12 kL_20 ykX6_total rfl (q_tot2 hI hD) rfl (Nat.le_of_ble_eq_true rfl) ⟨by decide, by decide, by decide, by decide⟩ (fun D hD => ?_)
    refine V_istore dL_act_15 (by decide) (by dsimp only [List.set] <;> rfl) rfl ?_
    refine V_aload_n dL_act_17 rfl ?_
    refine V_iconst (v := 3) dL_act_18 (by decide) ?_
    refine V_rq dL_act_19 kL_20 ykX6_total rfl (q_tot3_0 ho hI hD) rfl (Nat.le_of_ble_eq_true rfl) ⟨by decide, by decide, by decide, by decide⟩ (fun D hD => ?_)
    refine V_istore dL_act_22 (by decide) (by dsimp only [List.set] <;> rfl) rfl ?_
    exact k24 (-5) D hD (Or.inl ⟨ho, rfl⟩)
  · refine V_istore_n dL_act_9 (by decide) (by dsimp only [List.set] <;> rfl) rfl ?_
    refine V_aload_n dL_act_10 rfl ?_
    refine V_iconst (v := 2) dL_act_11 (by decide) ?_
    refine V_rq dL_act_12 kL_20 ykX6_total rfl (q_tot2 hI hD) rfl (Nat.le_of_ble_eq_true rfl) ⟨by decide, by decide, by decide, by decide⟩ (fun D hD => ?_)
    refine V_istore dL_act_15 (by decide) (by dsimp only [List.set] <;> rfl) rfl ?_
    refine V_aload_n dL_act_17 rfl ?_
    refine V_iconst (v := 3) dL_act_18 (by decide) ?_
    refine V_rq dL_act_19 kL_20 ykX6_total rfl (q_tot3_1 ho hI hD) rfl (Nat.le_of_ble_eq_true rfl) ⟨by decide, by decide, by decide, by decide⟩ (fun D hD => ?_)
    refine V_istore dL_act_22 (by decide) (by dsimp only [List.set] <;> rfl) rfl ?_
    exact k24 (nI (tl tc)) D hD (Or.inr ⟨ho, rfl⟩)
end LAW
