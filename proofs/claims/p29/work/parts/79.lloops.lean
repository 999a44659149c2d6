/-! The law: loops. -/
section LAW
variable {G : GT} {l : Launch} {sz a st hd tc op lc : Nat} {tl ll lt : Nat → Nat} {C D E : CT} {h : Hp}
theorem n4 {n : Nat} (h : n < 1000000) : ¬ nI n = -4 := fun z => by
  have := congrArg Int32.toInt z
  rw [nI_toInt (by omega)] at this
  have z4 : (-4 : Int32).toInt = -4 := rfl
  omega
/-- refused: nothing is changed -/
theorem rac_l {t : Int32} (h : -9 < t.toInt ∧ t.toInt < 0) (hD : SC C D) : Rac G a C st (some (.int t)) (B G a D) := ⟨t, D, rfl, rfl, Or.inl ⟨h.1, h.2, hD⟩⟩
theorem rac_r {t : Int32} {hd' tc' op' lc' : Nat} {tl' ll' lt' : Nat → Nat} (h : 0 ≤ t.toInt) (hst : st ≤ 4) (hP : Psh C st E) (hI : Inv (bk E 1) hd' tc' op' lc' tl' ll' lt') (hD : SC E D) : Rac G a C st (some (.int t)) (B G a D) := ⟨t, D, rfl, rfl, Or.inr ⟨h, Psh_SC hP hst hD, _, _, _, _, _, _, _, Inv_SC hD hI⟩⟩
theorem nz {n : Nat} (h : n < 1000000) : 0 ≤ (nI n).toInt := by
  rw [nI_toInt (by omega)]
  omega
set_option maxHeartbeats 4000000 in
theorem lp_gen {Y i j hw : Nat} (hij : (tc = 0 ∧ i = 0 ∧ j = 0) ∨ (i < tc ∧ j < tc)) (hJ : JW C st) (hI : Inv (bk C 1) hd tc op lc tl ll lt) (hD : SC C D) : V G l RL "loops" cL_loops 16 (some .int) (rmd 7 0 0) E0 (Qm G (Rac G a C st) sz 0 0) sz 0 0 46 [some (.ref a), some (.int (nI hw)), some (.int (nI Y)), some (.int (nI tc)), some (.int (nI lc)), some (.int (nI i)), some (.int (nI j)), none, none, none, none, none, none, none, none, none] [] (B G a D) := by
  obtain ⟨c1, c2, c3, c4⟩ := iv_tc hI
  obtain ⟨c5, c6⟩ := iv_lc hI
  rcases hij with ⟨z0, z1, z2⟩ | ⟨hi, hj⟩
  · subst z1; subst z2
    refine V_iload_n dL_loops_46 rfl ?_
    refine V_if_le dL_loops_47 (fun _ => ?_) (fun z => absurd ((cle (by repeat (first | with_reducible rfl | with_reducible exact nlit | with_reducible apply nadd | with_reducible apply nmul | with_reducible apply nsub | with_reducible assumption | omega)) (by repeat (first | with_reducible rfl | with_reducible exact nlit | with_reducible apply nadd | with_reducible apply nmul | with_reducible apply nsub | with_reducible assumption | omega)) (by omega) (by omega)).mpr (by omega)) z)
    refine V_iconst (v := 0) dL_loops_97 (by decide) ?_
    refine V_istore dL_loops_98 (by decide) (by dsimp only [List.set] <;> rfl) rfl ?_
    refine V_aload_n dL_loops_100 rfl ?_
    refine V_iload dL_loops_101 rfl ?_
    refine V_iload dL_loops_103 rfl ?_
    refine V_rq dL_loops_105 kL_67 ykX6_generalise rfl (q_generalise_o (nI 0) (nI 0) (fun z => nIx (by omega) (by decide) z.1) hI hD) rfl (Nat.le_of_ble_eq_true rfl) ⟨by decide, by decide, by decide, by decide⟩ (fun D hD => ?_)
    refine V_istore dL_loops_108 (by decide) (by dsimp only [List.set] <;> rfl) rfl ?_
    refine V_iload dL_loops_110 rfl ?_
    refine V_iload_n dL_loops_112 rfl ?_
    refine V_if_ne dL_loops_113 (fun z => absurd z (fun z => z (by rw [z0]; rfl))) (fun _ => ?_)
    refine V_iconst (v := (-1)) dL_loops_116 (by decide) ?_
    refine V_goto dL_loops_117 ?_
    refine V_icmp_ne dL_loops_144 (fun z => absurd z (fun z => z rfl)) (fun _ => ?_)
    refine V_iload dL_loops_147 rfl ?_
    refine V_if_lt dL_loops_149 (fun _ => ?_) (fun z => absurd (by decide) z)
    refine V_iload dL_loops_204 rfl ?_
    refine V_goto dL_loops_206 ?_
    refine V_iret dL_loops_211 rfl rfl rfl ?_
    exact rac_l (by decide) hD
  · have ti := iv_tr hI (i := i) (by omega)
    have tj := iv_tr hI (i := j) (by omega)
    have hst := hJ.1
    have gl := lc_li (e := eqC C i j 0) (j := tl j) (tl i)
    have kno : ∀ (D : CT), SC C D → ¬ (i ≠ j ∧ likC C i j (tl i) (tl j)) → V G l RL "loops" cL_loops 16 (some .int) (rmd 7 0 0) E0 (Qm G (Rac G a C st) sz 0 0) sz 0 0 98 [some (.ref a), some (.int (nI hw)), some (.int (nI Y)), some (.int (nI tc)), some (.int (nI lc)), some (.int (nI i)), some (.int (nI j)), none, none, none, none, none, none, none, none, none] [.int 0] (B G a D) := by
      intro D hD hn
      refine V_istore dL_loops_98 (by decide) (by dsimp only [List.set] <;> rfl) rfl ?_
      refine V_aload_n dL_loops_100 rfl ?_
      refine V_iload dL_loops_101 rfl ?_
      refine V_iload dL_loops_103 rfl ?_
      refine V_rq dL_loops_105 kL_67 ykX6_generalise rfl (q_generalise_n hi hj hn hI hD) rfl (Nat.le_of_ble_eq_true rfl) ⟨by decide, by decide, by decide, by decide⟩ (fun D hD => ?_)
      refine V_istore dL_loops_108 (by decide) (by dsimp only [List.set] <;> rfl) rfl ?_
      refine V_iload dL_loops_110 rfl ?_
      refine V_iload_n dL_loops_112 rfl ?_
      refine V_if_ne dL_loops_113 (fun _ => ?_) (fun z => absurd z ((fun z => absurd ((ceq (by repeat (first | with_reducible rfl | with_reducible exact nlit | with_reducible apply nadd | with_reducible apply nmul | with_reducible apply nsub | with_reducible assumption | omega)) (by repeat (first | with_reducible rfl | with_reducible exact nlit | with_reducible apply nadd | with_reducible apply nmul | with_reducible apply nsub | with_reducible assumption | omega)) (by omega) (by omega)).mp z) (by omega))))
      refine V_iload dL_loops_120 rfl ?_
      refine V_if_ne dL_loops_122 (fun z => absurd z (fun z => z rfl)) (fun _ => ?_)
      refine V_bipush (v := (-4)) dL_loops_125 (by decide) ?_
      refine V_goto dL_loops_127 ?_
      refine V_icmp_ne dL_loops_144 (fun z => absurd z (fun z => z rfl)) (fun _ => ?_)
      refine V_iload dL_loops_147 rfl ?_
      refine V_if_lt dL_loops_149 (fun _ => ?_) (fun z => absurd (by decide) z)
      refine V_iload dL_loops_204 rfl ?_
      refine V_goto dL_loops_206 ?_
      refine V_iret dL_loops_211 rfl rfl rfl ?_
      exact rac_l (by decide) hD
    have kyes : ∀ (D : CT), SC C D → (i ≠ j ∧ likC C i j (tl i) (tl j)) → V G l RL "loops" cL_loops 16 (some .int) (rmd 7 0 0) E0 (Qm G (Rac G a C st) sz 0 0) sz 0 0 98 [some (.ref a), some (.int (nI hw)), some (.int (nI Y)), some (.int (nI tc)), some (.int (nI lc)), some (.int (nI i)), some (.int (nI j)), none, none, none, none, none, none, none, none, none] [.int 1] (B G a D) := by
      intro D hD hn
      by_cases h6 : lc = 6
      · refine V_istore dL_loops_98 (by decide) (by dsimp only [List.set] <;> rfl) rfl ?_
        refine V_aload_n dL_loops_100 rfl ?_
        refine V_iload dL_loops_101 rfl ?_
        refine V_iload dL_loops_103 rfl ?_
        refine V_rq dL_loops_105 kL_67 ykX6_generalise rfl (q_generalise_f hi hj hn h6 hI hD) rfl (Nat.le_of_ble_eq_true rfl) ⟨by decide, by decide, by decide, by decide⟩ (fun D hD => ?_)
        refine V_istore dL_loops_108 (by decide) (by dsimp only [List.set] <;> rfl) rfl ?_
        refine V_iload dL_loops_110 rfl ?_
        refine V_iload_n dL_loops_112 rfl ?_
        refine V_if_ne dL_loops_113 (fun _ => ?_) (fun z => absurd z ((fun z => absurd ((ceq (by repeat (first | with_reducible rfl | with_reducible exact nlit | with_reducible apply nadd | with_reducible apply nmul | with_reducible apply nsub | with_reducible assumption | omega)) (by repeat (first | with_reducible rfl | with_reducible exact nlit | with_reducible apply nadd | with_reducible apply nmul | with_reducible apply nsub | with_reducible assumption | omega)) (by omega) (by omega)).mp z) (by omega))))
        refine V_iload dL_loops_120 rfl ?_
        refine V_if_ne dL_loops_122 (fun _ => ?_) (fun z => absurd z ((by decide)))
        refine V_iload dL_loops_130 rfl ?_
        refine V_bipush (v := 6) dL_loops_132 (by decide) ?_
        refine V_icmp_ne dL_loops_134 (fun z => absurd z (fun z => z (by rw [h6]; rfl))) (fun _ => ?_)
        refine V_bipush (v := (-3)) dL_loops_137 (by decide) ?_
        refine V_goto dL_loops_139 ?_
        refine V_icmp_ne dL_loops_144 (fun z => absurd z (fun z => z rfl)) (fun _ => ?_)
        refine V_iload dL_loops_147 rfl ?_
        refine V_if_lt dL_loops_149 (fun _ => ?_) (fun z => absurd (by decide) z)
        refine V_iload dL_loops_204 rfl ?_
        refine V_goto dL_loops_206 ?_
        refine V_iret dL_loops_211 rfl rfl rfl ?_
        exact rac_l (by decide) hD
      · refine V_istore dL_loops_98 (by decide) (by dsimp only [List.set] <;> rfl) rfl ?_
        refine V_aload_n dL_loops_100 rfl ?_
        refine V_iload dL_loops_101 rfl ?_
        refine V_iload dL_loops_103 rfl ?_
        refine V_rm dL_loops_105 kL_67 ykX6_generalise rfl (m_generalise hi hj hn (by omega) hJ hI hD) rfl (Nat.le_of_ble_eq_true rfl) ⟨by decide, by decide, by decide, by decide⟩ (fun D hP => ?_)
        refine V_istore dL_loops_108 (by decide) (by dsimp only [List.set] <;> rfl) rfl ?_
        refine V_iload dL_loops_110 rfl ?_
        refine V_iload_n dL_loops_112 rfl ?_
        obtain ⟨hP, hI', hf⟩ := hP
        have t1 := iv_t1 hI hi
        refine V_if_ne dL_loops_113 (fun _ => ?_) (fun z => absurd z ((fun z => absurd ((ceq (by repeat (first | with_reducible rfl | with_reducible exact nlit | with_reducible apply nadd | with_reducible apply nmul | with_reducible apply nsub | with_reducible assumption | omega)) (by repeat (first | with_reducible rfl | with_reducible exact nlit | with_reducible apply nadd | with_reducible apply nmul | with_reducible apply nsub | with_reducible assumption | omega)) (by omega) (by omega)).mp z) (by omega))))
        refine V_iload dL_loops_120 rfl ?_
        refine V_if_ne dL_loops_122 (fun _ => ?_) (fun z => absurd z ((by decide)))
        refine V_iload dL_loops_130 rfl ?_
        refine V_bipush (v := 6) dL_loops_132 (by decide) ?_
        refine V_icmp_ne dL_loops_134 (fun _ => ?_) (fun z => absurd z ((fun z => absurd ((ceq (by repeat (first | with_reducible rfl | with_reducible exact nlit | with_reducible apply nadd | with_reducible apply nmul | with_reducible apply nsub | with_reducible assumption | omega)) (by repeat (first | with_reducible rfl | with_reducible exact nlit | with_reducible apply nadd | with_reducible apply nmul | with_reducible apply nsub | with_reducible assumption | omega)) (by omega) (by omega)).mp z) (by omega))))
        refine V_iload dL_loops_142 rfl ?_
        refine V_icmp_ne dL_loops_144 (fun z => absurd z (fun z => z rfl)) (fun _ => ?_)
        refine V_iload dL_loops_147 rfl ?_
        refine V_if_lt dL_loops_149 (fun z => absurd z (fun z => absurd ((clt (by repeat (first | with_reducible rfl | with_reducible exact nlit | with_reducible apply nadd | with_reducible apply nmul | with_reducible apply nsub | with_reducible assumption | omega)) (by repeat (first | with_reducible rfl | with_reducible exact nlit | with_reducible apply nadd | with_reducible apply nmul | with_reducible apply nsub | with_reducible assumption | omega)) (by omega) (by omega)).mp z) (by omega))) (fun _ => ?_)
        obtain ⟨E, hE⟩ : ∃ E, E = D := ⟨_, rfl⟩
        rw [← hE] at hP hI' hf
        rw [← hE]
        have hD : SC E E := SC.rf
        have hq := fun (D : CT) (hD : SC E D) => q_fits (G := G) (l := l) (sz := sz + 0) (a := a) (D := D) (n := lc) (i := i) (by omega) hi hI' hD
        rw [nup_s, if_pos hf, Nat.div_self (by omega)] at hq
        refine V_aload_n dL_loops_152 rfl ?_
        refine V_iconst (v := 4) dL_loops_153 (by decide) ?_
        refine V_rq dL_loops_154 kL_20 ykX6_total rfl (q_tot4 hI' hD) rfl (Nat.le_of_ble_eq_true rfl) ⟨by decide, by decide, by decide, by decide⟩ (fun D hD => ?_)
        refine V_iload dL_loops_157 rfl ?_
        refine V_iconst (v := 1) dL_loops_159 (by decide) ?_
        refine V_iadd dL_loops_160 ?_
        refine V_icmp_ne dL_loops_161 (fun z => absurd z (fun z => z ((ceq (by repeat (first | with_reducible rfl | with_reducible exact nlit | with_reducible apply nadd | with_reducible apply nmul | with_reducible apply nsub | with_reducible assumption | omega)) (by repeat (first | with_reducible rfl | with_reducible exact nlit | with_reducible apply nadd | with_reducible apply nmul | with_reducible apply nsub | with_reducible assumption | omega)) (by omega) (by omega)).mpr (by omega)))) (fun _ => ?_)
        refine V_aload_n dL_loops_164 rfl ?_
        refine V_iload dL_loops_165 rfl ?_
        refine V_iconst (v := 1) dL_loops_167 (by decide) ?_
        refine V_rq dL_loops_168 kL_27 ykX6_length rfl (Rq_e (by rw [nup_s]) (q_len1 (n := lc) (by omega) hI' hD)) rfl (Nat.le_of_ble_eq_true rfl) ⟨by decide, by decide, by decide, by decide⟩ (fun D hD => ?_)
        refine V_aload_n dL_loops_171 rfl ?_
        refine V_iload dL_loops_172 rfl ?_
        refine V_iconst (v := 0) dL_loops_174 (by decide) ?_
        refine V_rq dL_loops_175 kL_27 ykX6_length rfl (q_len0 hi hI' hD) rfl (Nat.le_of_ble_eq_true rfl) ⟨by decide, by decide, by decide, by decide⟩ (fun D hD => ?_)
        refine V_icmp_ne dL_loops_178 (fun z => absurd z (fun z => z rfl)) (fun _ => ?_)
        refine V_aload_n dL_loops_181 rfl ?_
        refine V_iload dL_loops_182 rfl ?_
        refine V_iconst (v := 2) dL_loops_184 (by decide) ?_
        refine V_rq dL_loops_185 kL_27 ykX6_length rfl (Rq_e (by rw [nup_s]) (q_len2 (n := lc) (by omega) hI' hD)) rfl (Nat.le_of_ble_eq_true rfl) ⟨by decide, by decide, by decide, by decide⟩ (fun D hD => ?_)
        refine V_iconst (v := 2) dL_loops_188 (by decide) ?_
        refine V_icmp_ne dL_loops_189 (fun z => absurd z (fun z => z rfl)) (fun _ => ?_)
        refine V_aload_n dL_loops_192 rfl ?_
        refine V_iload dL_loops_193 rfl ?_
        refine V_iload dL_loops_195 rfl ?_
        refine V_rq dL_loops_197 kL_51 ykX6_fits rfl (hq _ hD) rfl (Nat.le_of_ble_eq_true rfl) ⟨by decide, by decide, by decide, by decide⟩ (fun D hD => ?_)
        refine V_iconst (v := 1) dL_loops_200 (by decide) ?_
        refine V_icmp_ne dL_loops_201 (fun z => absurd z (fun z => z rfl)) (fun _ => ?_)
        refine V_iload dL_loops_204 rfl ?_
        refine V_goto dL_loops_206 ?_
        refine V_iret dL_loops_211 rfl rfl rfl ?_
        exact rac_r (nz (by omega)) hst hP hI' hD
    refine V_iload_n dL_loops_46 rfl ?_
    refine V_if_le dL_loops_47 (fun z => absurd z (fun z => absurd ((cle (by repeat (first | with_reducible rfl | with_reducible exact nlit | with_reducible apply nadd | with_reducible apply nmul | with_reducible apply nsub | with_reducible assumption | omega)) (by repeat (first | with_reducible rfl | with_reducible exact nlit | with_reducible apply nadd | with_reducible apply nmul | with_reducible apply nsub | with_reducible assumption | omega)) (by omega) (by omega)).mp z) (by omega))) (fun _ => ?_)
    by_cases hne : i = j
    · refine V_iload dL_loops_50 rfl ?_
      refine V_iload dL_loops_52 rfl ?_
      refine V_icmp_eq dL_loops_54 (fun _ => ?_) (fun z => absurd (by rw [hne]) z)
      refine V_iconst (v := 0) dL_loops_97 (by decide) ?_
      exact kno D hD (fun z => z.1 hne)
    · refine V_iload dL_loops_50 rfl ?_
      refine V_iload dL_loops_52 rfl ?_
      refine V_icmp_eq dL_loops_54 (fun z => absurd z (fun z => hne ((neq (by omega) (by omega)).mp z))) (fun _ => ?_)
      refine V_aload_n dL_loops_57 rfl ?_
      refine V_iload dL_loops_58 rfl ?_
      refine V_iconst (v := 0) dL_loops_60 (by decide) ?_
      refine V_rq dL_loops_61 kL_27 ykX6_length rfl (q_len0 hi hI hD) rfl (Nat.le_of_ble_eq_true rfl) ⟨by decide, by decide, by decide, by decide⟩ (fun D hD => ?_)
      refine V_aload_n dL_loops_64 rfl ?_
      refine V_iload dL_loops_65 rfl ?_
      refine V_iconst (v := 0) dL_loops_67 (by decide) ?_
      refine V_rq dL_loops_68 kL_27 ykX6_length rfl (q_len0 hj hI hD) rfl (Nat.le_of_ble_eq_true rfl) ⟨by decide, by decide, by decide, by decide⟩ (fun D hD => ?_)
      by_cases hl : tl i = tl j
      · refine V_icmp_ne dL_loops_71 (fun z => absurd z (fun z => z (by rw [hl]))) (fun _ => ?_)
        refine V_aload_n dL_loops_74 rfl ?_
        refine V_iload dL_loops_75 rfl ?_
        refine V_iload dL_loops_77 rfl ?_
        refine V_iconst (v := 0) dL_loops_79 (by decide) ?_
        refine V_rq dL_loops_80 kL_36 ykX6_alike rfl (q_alike 0 (Or.inl rfl) hi hj hI hD) rfl (Nat.le_of_ble_eq_true rfl) ⟨by decide, by decide, by decide, by decide⟩ (fun D hD => ?_)
        refine V_aload_n dL_loops_83 rfl ?_
        refine V_iload dL_loops_84 rfl ?_
        refine V_iconst (v := 0) dL_loops_86 (by decide) ?_
        refine V_rq dL_loops_87 kL_27 ykX6_length rfl (q_len0 hi hI hD) rfl (Nat.le_of_ble_eq_true rfl) ⟨by decide, by decide, by decide, by decide⟩ (fun D hD => ?_)
        by_cases ha : lcN (eqC C i j 0) (tl i) (tl j) = tl i
        · refine V_icmp_ne dL_loops_90 (fun z => absurd z (fun z => z (by rw [ha]))) (fun _ => ?_)
          refine V_iconst (v := 1) dL_loops_93 (by decide) ?_
          refine V_goto dL_loops_94 ?_
          refine kyes D hD ⟨hne, ?_⟩
          rw [← hl] at ha ⊢
          exact al_full ha
        · refine V_icmp_ne dL_loops_90 (fun _ => ?_) (fun z => absurd z ((fun z => ha ((neq (by omega) (by omega)).mp z))))
          refine V_iconst (v := 0) dL_loops_97 (by decide) ?_
          refine kno D hD (fun z => ha ?_)
          have := z.2
          rw [← hl] at this ⊢
          exact al_lik this
      · refine V_icmp_ne dL_loops_71 (fun _ => ?_) (fun z => absurd z ((fun z => hl ((neq (by omega) (by omega)).mp z))))
        refine V_iconst (v := 0) dL_loops_97 (by decide) ?_
        exact kno D hD (fun z => hl z.2.1)
set_option maxHeartbeats 4000000 in
theorem lp_fold {Y i j hw : Nat} (hij : (tc = 0 ∧ i = 0 ∧ j = 0) ∨ (i < tc ∧ j < tc)) (hJ : JW C st) (hI : Inv (bk C 1) hd tc op lc tl ll lt) (hD : SC C D) : V G l RL "loops" cL_loops 16 (some .int) (rmd 7 0 0) E0 (Qm G (Rac G a C st) sz 0 0) sz 0 0 217 [some (.ref a), some (.int (nI hw)), some (.int (nI Y)), some (.int (nI tc)), some (.int (nI lc)), some (.int (nI i)), some (.int (nI j)), none, none, none, none, none, none, none, none, none] [] (B G a D) := by
  obtain ⟨c1, c2, c3, c4⟩ := iv_tc hI
  obtain ⟨c5, c6⟩ := iv_lc hI
  rcases hij with ⟨z0, z1, z2⟩ | ⟨hi, hj⟩
  · subst z1; subst z2
    refine V_aload_n dL_loops_217 rfl ?_
    refine V_iload dL_loops_218 rfl ?_
    refine V_rq dL_loops_220 kL_70 ykX6_fold rfl (q_fold_o (nI 0) (nIx (by omega) (by decide)) hI hD) rfl (Nat.le_of_ble_eq_true rfl) ⟨by decide, by decide, by decide, by decide⟩ (fun D hD => ?_)
    refine V_istore dL_loops_223 (by decide) (by dsimp only [List.set] <;> rfl) rfl ?_
    refine V_iload_n dL_loops_225 rfl ?_
    refine V_if_ne dL_loops_226 (fun z => absurd z (fun z => z (by rw [z0]; rfl))) (fun _ => ?_)
    refine V_iload dL_loops_229 rfl ?_
    refine V_iconst (v := (-1)) dL_loops_231 (by decide) ?_
    refine V_icmp_ne dL_loops_232 (fun z => absurd z (fun z => z rfl)) (fun _ => ?_)
    refine V_goto dL_loops_235 ?_
    refine V_iload dL_loops_264 rfl ?_
    refine V_if_lt dL_loops_266 (fun _ => ?_) (fun z => absurd (by decide) z)
    refine V_iload dL_loops_335 rfl ?_
    refine V_goto dL_loops_337 ?_
    refine V_iret dL_loops_342 rfl rfl rfl ?_
    exact rac_l (by decide) hD
  · have ti := iv_tr hI (i := i) (by omega)
    have hst := hJ.1
    rcases m_fold (G := G) (l := l) (sz := sz + 0) (a := a) hi hJ hI hD with ⟨v, hv, hc⟩ | ⟨h6, s, s1, s2, s3, hc⟩
    · rcases hv with rfl | ⟨rfl, h6⟩
      · refine V_aload_n dL_loops_217 rfl ?_
        refine V_iload dL_loops_218 rfl ?_
        refine V_rq dL_loops_220 kL_70 ykX6_fold rfl hc rfl (Nat.le_of_ble_eq_true rfl) ⟨by decide, by decide, by decide, by decide⟩ (fun D hD => ?_)
        refine V_istore dL_loops_223 (by decide) (by dsimp only [List.set] <;> rfl) rfl ?_
        refine V_iload_n dL_loops_225 rfl ?_
        refine V_if_ne dL_loops_226 (fun _ => ?_) (fun z => absurd z ((fun z => absurd ((ceq (by repeat (first | with_reducible rfl | with_reducible exact nlit | with_reducible apply nadd | with_reducible apply nmul | with_reducible apply nsub | with_reducible assumption | omega)) (by repeat (first | with_reducible rfl | with_reducible exact nlit | with_reducible apply nadd | with_reducible apply nmul | with_reducible apply nsub | with_reducible assumption | omega)) (by omega) (by omega)).mp z) (by omega))))
        refine V_iload dL_loops_238 rfl ?_
        refine V_bipush (v := (-4)) dL_loops_240 (by decide) ?_
        refine V_icmp_eq dL_loops_242 (fun _ => ?_) (fun z => absurd rfl z)
        refine V_iload dL_loops_264 rfl ?_
        refine V_if_lt dL_loops_266 (fun _ => ?_) (fun z => absurd (by decide) z)
        refine V_iload dL_loops_335 rfl ?_
        refine V_goto dL_loops_337 ?_
        refine V_iret dL_loops_342 rfl rfl rfl ?_
        exact rac_l (by decide) hD
      · refine V_aload_n dL_loops_217 rfl ?_
        refine V_iload dL_loops_218 rfl ?_
        refine V_rq dL_loops_220 kL_70 ykX6_fold rfl hc rfl (Nat.le_of_ble_eq_true rfl) ⟨by decide, by decide, by decide, by decide⟩ (fun D hD => ?_)
        refine V_istore dL_loops_223 (by decide) (by dsimp only [List.set] <;> rfl) rfl ?_
        refine V_iload_n dL_loops_225 rfl ?_
        refine V_if_ne dL_loops_226 (fun _ => ?_) (fun z => absurd z ((fun z => absurd ((ceq (by repeat (first | with_reducible rfl | with_reducible exact nlit | with_reducible apply nadd | with_reducible apply nmul | with_reducible apply nsub | with_reducible assumption | omega)) (by repeat (first | with_reducible rfl | with_reducible exact nlit | with_reducible apply nadd | with_reducible apply nmul | with_reducible apply nsub | with_reducible assumption | omega)) (by omega) (by omega)).mp z) (by omega))))
        refine V_iload dL_loops_238 rfl ?_
        refine V_bipush (v := (-4)) dL_loops_240 (by decide) ?_
        refine V_icmp_eq dL_loops_242 (fun z => absurd z (by decide)) (fun _ => ?_)
        refine V_iload dL_loops_245 rfl ?_
        refine V_iload dL_loops_247 rfl ?_
        refine V_bipush (v := 6) dL_loops_249 (by decide) ?_
        refine V_icmp_ne dL_loops_251 (fun z => absurd z (fun z => z (by rw [h6]; rfl))) (fun _ => ?_)
        refine V_bipush (v := (-3)) dL_loops_254 (by decide) ?_
        refine V_goto dL_loops_256 ?_
        refine V_icmp_ne dL_loops_261 (fun z => absurd z (fun z => z rfl)) (fun _ => ?_)
        refine V_iload dL_loops_264 rfl ?_
        refine V_if_lt dL_loops_266 (fun _ => ?_) (fun z => absurd (by decide) z)
        refine V_iload dL_loops_335 rfl ?_
        refine V_goto dL_loops_337 ?_
        refine V_iret dL_loops_342 rfl rfl rfl ?_
        exact rac_l (by decide) hD
    · have hT2 : 2 ≤ tl i / s := (Nat.le_div_iff_mul_le (by omega)).mpr s2
      have hT3 : tl i / s ≤ tl i := Nat.div_le_self _ _
      have hT4 : s * (tl i / s) = tl i := Nat.mul_div_cancel' (Nat.dvd_of_mod_eq_zero s3)
      refine V_aload_n dL_loops_217 rfl ?_
      refine V_iload dL_loops_218 rfl ?_
      refine V_rm dL_loops_220 kL_70 ykX6_fold rfl hc rfl (Nat.le_of_ble_eq_true rfl) ⟨by decide, by decide, by decide, by decide⟩ (fun D hP => ?_)
      refine V_istore dL_loops_223 (by decide) (by dsimp only [List.set] <;> rfl) rfl ?_
      refine V_iload_n dL_loops_225 rfl ?_
      obtain ⟨hP, hI', hf⟩ := hP
      obtain ⟨E, hE⟩ : ∃ E, E = D := ⟨_, rfl⟩
      rw [← hE] at hP hI' hf
      rw [← hE]
      have hD : SC E E := SC.rf
      have hq := fun (D : CT) (hD : SC E D) => q_fits (G := G) (l := l) (sz := sz + 0) (a := a) (D := D) (n := lc) (i := i) (by omega) hi hI' hD
      rw [nup_s, if_pos hf] at hq
      generalize hW : tl i / s = W at hT2 hT3 hT4 hI' hq
      have l2 := fun (D : CT) (hD : SC E D) => q_len2 (G := G) (l := l) (sz := sz + 0) (a := a) (D := D) (n := lc) (by omega) hI' hD
      rw [nup_s] at l2
      refine V_if_ne dL_loops_226 (fun _ => ?_) (fun z => absurd z ((fun z => absurd ((ceq (by repeat (first | with_reducible rfl | with_reducible exact nlit | with_reducible apply nadd | with_reducible apply nmul | with_reducible apply nsub | with_reducible assumption | omega)) (by repeat (first | with_reducible rfl | with_reducible exact nlit | with_reducible apply nadd | with_reducible apply nmul | with_reducible apply nsub | with_reducible assumption | omega)) (by omega) (by omega)).mp z) (by omega))))
      refine V_iload dL_loops_238 rfl ?_
      refine V_bipush (v := (-4)) dL_loops_240 (by decide) ?_
      refine V_icmp_eq dL_loops_242 (fun z => absurd z (n4 (by omega))) (fun _ => ?_)
      refine V_iload dL_loops_245 rfl ?_
      refine V_iload dL_loops_247 rfl ?_
      refine V_bipush (v := 6) dL_loops_249 (by decide) ?_
      refine V_icmp_ne dL_loops_251 (fun _ => ?_) (fun z => absurd z ((fun z => absurd ((ceq (by repeat (first | with_reducible rfl | with_reducible exact nlit | with_reducible apply nadd | with_reducible apply nmul | with_reducible apply nsub | with_reducible assumption | omega)) (by repeat (first | with_reducible rfl | with_reducible exact nlit | with_reducible apply nadd | with_reducible apply nmul | with_reducible apply nsub | with_reducible assumption | omega)) (by omega) (by omega)).mp z) (by omega))))
      refine V_iload dL_loops_259 rfl ?_
      refine V_icmp_ne dL_loops_261 (fun z => absurd z (fun z => z rfl)) (fun _ => ?_)
      refine V_iload dL_loops_264 rfl ?_
      refine V_if_lt dL_loops_266 (fun z => absurd z (fun z => absurd ((clt (by repeat (first | with_reducible rfl | with_reducible exact nlit | with_reducible apply nadd | with_reducible apply nmul | with_reducible apply nsub | with_reducible assumption | omega)) (by repeat (first | with_reducible rfl | with_reducible exact nlit | with_reducible apply nadd | with_reducible apply nmul | with_reducible apply nsub | with_reducible assumption | omega)) (by omega) (by omega)).mp z) (by omega))) (fun _ => ?_)
      refine V_aload_n dL_loops_269 rfl ?_
      refine V_iconst (v := 4) dL_loops_270 (by decide) ?_
      refine V_rq dL_loops_271 kL_20 ykX6_total rfl (q_tot4 hI' hD) rfl (Nat.le_of_ble_eq_true rfl) ⟨by decide, by decide, by decide, by decide⟩ (fun D hD => ?_)
      refine V_iload dL_loops_274 rfl ?_
      refine V_iconst (v := 1) dL_loops_276 (by decide) ?_
      refine V_iadd dL_loops_277 ?_
      refine V_icmp_ne dL_loops_278 (fun z => absurd z (fun z => z ((ceq (by repeat (first | with_reducible rfl | with_reducible exact nlit | with_reducible apply nadd | with_reducible apply nmul | with_reducible apply nsub | with_reducible assumption | omega)) (by repeat (first | with_reducible rfl | with_reducible exact nlit | with_reducible apply nadd | with_reducible apply nmul | with_reducible apply nsub | with_reducible assumption | omega)) (by omega) (by omega)).mpr (by omega)))) (fun _ => ?_)
      refine V_aload_n dL_loops_281 rfl ?_
      refine V_iload dL_loops_282 rfl ?_
      refine V_iconst (v := 2) dL_loops_284 (by decide) ?_
      refine V_rq dL_loops_285 kL_27 ykX6_length rfl (l2 _ hD) rfl (Nat.le_of_ble_eq_true rfl) ⟨by decide, by decide, by decide, by decide⟩ (fun D hD => ?_)
      refine V_iconst (v := 1) dL_loops_288 (by decide) ?_
      refine V_icmp_le dL_loops_289 (fun z => absurd z (fun z => absurd ((cle (by repeat (first | with_reducible rfl | with_reducible exact nlit | with_reducible apply nadd | with_reducible apply nmul | with_reducible apply nsub | with_reducible assumption | omega)) (by repeat (first | with_reducible rfl | with_reducible exact nlit | with_reducible apply nadd | with_reducible apply nmul | with_reducible apply nsub | with_reducible assumption | omega)) (by omega) (by omega)).mp z) (by omega))) (fun _ => ?_)
      refine V_aload_n dL_loops_292 rfl ?_
      refine V_iload dL_loops_293 rfl ?_
      refine V_iload dL_loops_295 rfl ?_
      refine V_rq dL_loops_297 kL_51 ykX6_fits rfl (hq _ hD) rfl (Nat.le_of_ble_eq_true rfl) ⟨by decide, by decide, by decide, by decide⟩ (fun D hD => ?_)
      refine V_aload_n dL_loops_300 rfl ?_
      refine V_iload dL_loops_301 rfl ?_
      refine V_iconst (v := 2) dL_loops_303 (by decide) ?_
      refine V_rq dL_loops_304 kL_27 ykX6_length rfl (l2 _ hD) rfl (Nat.le_of_ble_eq_true rfl) ⟨by decide, by decide, by decide, by decide⟩ (fun D hD => ?_)
      refine V_icmp_ne dL_loops_307 (fun z => absurd z (fun z => z rfl)) (fun _ => ?_)
      refine V_aload_n dL_loops_310 rfl ?_
      refine V_iload dL_loops_311 rfl ?_
      refine V_iconst (v := 1) dL_loops_313 (by decide) ?_
      refine V_rq dL_loops_314 kL_27 ykX6_length rfl (Rq_e (by rw [nup_s]) (q_len1 (n := lc) (by omega) hI' hD)) rfl (Nat.le_of_ble_eq_true rfl) ⟨by decide, by decide, by decide, by decide⟩ (fun D hD => ?_)
      refine V_aload_n dL_loops_317 rfl ?_
      refine V_iload dL_loops_318 rfl ?_
      refine V_iconst (v := 2) dL_loops_320 (by decide) ?_
      refine V_rq dL_loops_321 kL_27 ykX6_length rfl (l2 _ hD) rfl (Nat.le_of_ble_eq_true rfl) ⟨by decide, by decide, by decide, by decide⟩ (fun D hD => ?_)
      refine V_imul dL_loops_324 ?_
      refine V_aload_n dL_loops_325 rfl ?_
      refine V_iload dL_loops_326 rfl ?_
      refine V_iconst (v := 0) dL_loops_328 (by decide) ?_
      refine V_rq dL_loops_329 kL_27 ykX6_length rfl (q_len0 hi hI' hD) rfl (Nat.le_of_ble_eq_true rfl) ⟨by decide, by decide, by decide, by decide⟩ (fun D hD => ?_)
      refine V_icmp_ne dL_loops_332 (fun z => absurd z (fun z => z ((ceq (by repeat (first | with_reducible rfl | with_reducible exact nlit | with_reducible apply nadd | with_reducible apply nmul | with_reducible apply nsub | with_reducible assumption | omega)) (by repeat (first | with_reducible rfl | with_reducible exact nlit | with_reducible apply nadd | with_reducible apply nmul | with_reducible apply nsub | with_reducible assumption | omega)) (by omega) (by omega)).mpr (by omega)))) (fun _ => ?_)
      refine V_iload dL_loops_335 rfl ?_
      refine V_goto dL_loops_337 ?_
      refine V_iret dL_loops_342 rfl rfl rfl ?_
      exact rac_r (nz (by omega)) hst hP hI' hD
set_option maxHeartbeats 4000000 in
theorem lp_set {Y i j hw p : Nat} (hY : Y < 2147483648) (hp : p < 6) (hJ : JW C st) (hI : Inv (bk C 1) hd tc op lc tl ll lt) (hD : SC C D) : V G l RL "loops" cL_loops 16 (some .int) (rmd 7 0 0) E0 (Qm G (Rac G a C st) sz 0 0) sz 0 0 354 [some (.ref a), some (.int (nI hw)), some (.int (nI Y)), some (.int (nI tc)), some (.int (nI lc)), some (.int (nI i)), some (.int (nI j)), some (.int (nI p)), none, none, none, none, none, none, none, none] [] (B G a D) := by
  obtain ⟨c1, c2, c3, c4⟩ := iv_tc hI
  obtain ⟨c5, c6⟩ := iv_lc hI
  have hst := hJ.1
  have eT : (1 : Int32) + (nI Y / 6 - nI Y / 6 / 99 * 99) = nI (1 + Y / 6 % 99) := by
    rw [show (6 : Int32) = nI 6 from rfl, show (99 : Int32) = nI 99 from rfl, pk_div hY (by decide) (by decide), pk_rem (Nat.lt_of_le_of_lt (Nat.div_le_self _ _) hY) (by decide) (by decide)]
    exact nadd (nlit (n := 1)) rfl
  have hT : 1 ≤ 1 + Y / 6 % 99 ∧ 1 + Y / 6 % 99 ≤ 99 := by
    have := Nat.mod_lt (Y / 6) (show 0 < 99 by decide)
    omega
  generalize 1 + Y / 6 % 99 = T at eT hT
  by_cases hpl : p < lc
  · have q := iv_lp hI hpl
    by_cases hTT : lt p = T
    · refine V_aload_n dL_loops_354 rfl ?_
      refine V_iload dL_loops_355 rfl ?_
      refine V_iconst (v := 2) dL_loops_357 (by decide) ?_
      refine V_rq dL_loops_358 kL_27 ykX6_length rfl (q_len2 hpl hI hD) rfl (Nat.le_of_ble_eq_true rfl) ⟨by decide, by decide, by decide, by decide⟩ (fun D hD => ?_)
      refine V_istore dL_loops_361 (by decide) (by dsimp only [List.set] <;> rfl) rfl ?_
      refine V_iconst (v := 1) dL_loops_363 (by decide) ?_
      refine V_iload_n dL_loops_364 rfl ?_
      refine V_bipush (v := 6) dL_loops_365 (by decide) ?_
      refine V_idiv dL_loops_367 (by decide) ?_
      refine V_bipush (v := 99) dL_loops_368 (by decide) ?_
      refine V_irem dL_loops_370 (by decide) ?_
      refine V_iadd dL_loops_371 ?_
      refine V_toe eT ?_
      rw [← hTT]
      refine V_istore dL_loops_372 (by decide) (by dsimp only [List.set] <;> rfl) rfl ?_
      refine V_aload_n dL_loops_374 rfl ?_
      refine V_iload dL_loops_375 rfl ?_
      refine V_iload dL_loops_377 rfl ?_
      refine V_rq dL_loops_379 kL_73 ykX6_setTurns rfl (q_setTurns_s hpl hI hD) rfl (Nat.le_of_ble_eq_true rfl) ⟨by decide, by decide, by decide, by decide⟩ (fun D hD => ?_)
      refine V_istore dL_loops_382 (by decide) (by dsimp only [List.set] <;> rfl) rfl ?_
      refine V_iload dL_loops_384 rfl ?_
      refine V_iload dL_loops_386 rfl ?_
      refine V_if_ge dL_loops_388 (fun _ => ?_) (fun z => absurd ((cle (by repeat (first | with_reducible rfl | with_reducible exact nlit | with_reducible apply nadd | with_reducible apply nmul | with_reducible apply nsub | with_reducible assumption | omega)) (by repeat (first | with_reducible rfl | with_reducible exact nlit | with_reducible apply nadd | with_reducible apply nmul | with_reducible apply nsub | with_reducible assumption | omega)) (by omega) (by omega)).mpr (by omega)) z)
      refine V_iload dL_loops_395 rfl ?_
      refine V_iload dL_loops_397 rfl ?_
      refine V_icmp_ne dL_loops_399 (fun z => absurd z (fun z => z rfl)) (fun _ => ?_)
      refine V_bipush (v := (-5)) dL_loops_402 (by decide) ?_
      refine V_goto dL_loops_404 ?_
      refine V_icmp_ne dL_loops_409 (fun z => absurd z (fun z => z rfl)) (fun _ => ?_)
      refine V_iload dL_loops_412 rfl ?_
      refine V_if_lt dL_loops_414 (fun z => absurd z (fun z => absurd ((clt (by repeat (first | with_reducible rfl | with_reducible exact nlit | with_reducible apply nadd | with_reducible apply nmul | with_reducible apply nsub | with_reducible assumption | omega)) (by repeat (first | with_reducible rfl | with_reducible exact nlit | with_reducible apply nadd | with_reducible apply nmul | with_reducible apply nsub | with_reducible assumption | omega)) (by omega) (by omega)).mp z) (by omega))) (fun _ => ?_)
      refine V_aload_n dL_loops_417 rfl ?_
      refine V_iload dL_loops_418 rfl ?_
      refine V_iconst (v := 2) dL_loops_420 (by decide) ?_
      refine V_rq dL_loops_421 kL_27 ykX6_length rfl (q_len2 hpl hI hD) rfl (Nat.le_of_ble_eq_true rfl) ⟨by decide, by decide, by decide, by decide⟩ (fun D hD => ?_)
      refine V_iload dL_loops_424 rfl ?_
      refine V_icmp_ne dL_loops_426 (fun z => absurd z (fun z => z rfl)) (fun _ => ?_)
      refine V_iload dL_loops_429 rfl ?_
      refine V_goto dL_loops_431 ?_
      refine V_iret dL_loops_436 rfl rfl rfl ?_
      exact rac_l (by decide) hD
    · refine V_aload_n dL_loops_354 rfl ?_
      refine V_iload dL_loops_355 rfl ?_
      refine V_iconst (v := 2) dL_loops_357 (by decide) ?_
      refine V_rq dL_loops_358 kL_27 ykX6_length rfl (q_len2 hpl hI hD) rfl (Nat.le_of_ble_eq_true rfl) ⟨by decide, by decide, by decide, by decide⟩ (fun D hD => ?_)
      refine V_istore dL_loops_361 (by decide) (by dsimp only [List.set] <;> rfl) rfl ?_
      refine V_iconst (v := 1) dL_loops_363 (by decide) ?_
      refine V_iload_n dL_loops_364 rfl ?_
      refine V_bipush (v := 6) dL_loops_365 (by decide) ?_
      refine V_idiv dL_loops_367 (by decide) ?_
      refine V_bipush (v := 99) dL_loops_368 (by decide) ?_
      refine V_irem dL_loops_370 (by decide) ?_
      refine V_iadd dL_loops_371 ?_
      refine V_toe eT ?_
      refine V_istore dL_loops_372 (by decide) (by dsimp only [List.set] <;> rfl) rfl ?_
      refine V_aload_n dL_loops_374 rfl ?_
      refine V_iload dL_loops_375 rfl ?_
      refine V_iload dL_loops_377 rfl ?_
      refine V_rm dL_loops_379 kL_73 ykX6_setTurns rfl (m_setTurns hpl hT hTT hJ hI hD) rfl (Nat.le_of_ble_eq_true rfl) ⟨by decide, by decide, by decide, by decide⟩ (fun D hP => ?_)
      refine V_istore dL_loops_382 (by decide) (by dsimp only [List.set] <;> rfl) rfl ?_
      refine V_iload dL_loops_384 rfl ?_
      refine V_iload dL_loops_386 rfl ?_
      obtain ⟨hP, hI'⟩ := hP
      obtain ⟨E, hE⟩ : ∃ E, E = D := ⟨_, rfl⟩
      rw [← hE] at hP hI'
      rw [← hE]
      have hD : SC E E := SC.rf
      refine V_if_ge dL_loops_388 (fun _ => ?_) (fun z => absurd ((cle (by repeat (first | with_reducible rfl | with_reducible exact nlit | with_reducible apply nadd | with_reducible apply nmul | with_reducible apply nsub | with_reducible assumption | omega)) (by repeat (first | with_reducible rfl | with_reducible exact nlit | with_reducible apply nadd | with_reducible apply nmul | with_reducible apply nsub | with_reducible assumption | omega)) (by omega) (by omega)).mpr (by omega)) z)
      refine V_iload dL_loops_395 rfl ?_
      refine V_iload dL_loops_397 rfl ?_
      refine V_icmp_ne dL_loops_399 (fun _ => ?_) (fun z => absurd z ((fun z => hTT ((neq (by omega) (by omega)).mp z))))
      refine V_iload dL_loops_407 rfl ?_
      refine V_icmp_ne dL_loops_409 (fun z => absurd z (fun z => z rfl)) (fun _ => ?_)
      refine V_iload dL_loops_412 rfl ?_
      refine V_if_lt dL_loops_414 (fun z => absurd z (fun z => absurd ((clt (by repeat (first | with_reducible rfl | with_reducible exact nlit | with_reducible apply nadd | with_reducible apply nmul | with_reducible apply nsub | with_reducible assumption | omega)) (by repeat (first | with_reducible rfl | with_reducible exact nlit | with_reducible apply nadd | with_reducible apply nmul | with_reducible apply nsub | with_reducible assumption | omega)) (by omega) (by omega)).mp z) (by omega))) (fun _ => ?_)
      refine V_aload_n dL_loops_417 rfl ?_
      refine V_iload dL_loops_418 rfl ?_
      refine V_iconst (v := 2) dL_loops_420 (by decide) ?_
      refine V_rq dL_loops_421 kL_27 ykX6_length rfl (Rq_e (by rw [nup_s]) (q_len2 hpl hI' hD)) rfl (Nat.le_of_ble_eq_true rfl) ⟨by decide, by decide, by decide, by decide⟩ (fun D hD => ?_)
      refine V_iload dL_loops_424 rfl ?_
      refine V_icmp_ne dL_loops_426 (fun z => absurd z (fun z => z rfl)) (fun _ => ?_)
      refine V_iload dL_loops_429 rfl ?_
      refine V_goto dL_loops_431 ?_
      refine V_iret dL_loops_436 rfl rfl rfl ?_
      exact rac_r (nz (by omega)) hst hP hI' hD
  · refine V_aload_n dL_loops_354 rfl ?_
    refine V_iload dL_loops_355 rfl ?_
    refine V_iconst (v := 2) dL_loops_357 (by decide) ?_
    refine V_rq dL_loops_358 kL_27 ykX6_length rfl (q_len12_o (Or.inr rfl) (nIx (Nat.not_lt.mp hpl) (by omega)) hI hD) rfl (Nat.le_of_ble_eq_true rfl) ⟨by decide, by decide, by decide, by decide⟩ (fun D hD => ?_)
    refine V_istore dL_loops_361 (by decide) (by dsimp only [List.set] <;> rfl) rfl ?_
    refine V_iconst (v := 1) dL_loops_363 (by decide) ?_
    refine V_iload_n dL_loops_364 rfl ?_
    refine V_bipush (v := 6) dL_loops_365 (by decide) ?_
    refine V_idiv dL_loops_367 (by decide) ?_
    refine V_bipush (v := 99) dL_loops_368 (by decide) ?_
    refine V_irem dL_loops_370 (by decide) ?_
    refine V_iadd dL_loops_371 ?_
    refine V_toe eT ?_
    refine V_istore dL_loops_372 (by decide) (by dsimp only [List.set] <;> rfl) rfl ?_
    refine V_aload_n dL_loops_374 rfl ?_
    refine V_iload dL_loops_375 rfl ?_
    refine V_iload dL_loops_377 rfl ?_
    refine V_rq dL_loops_379 kL_73 ykX6_setTurns rfl (q_setTurns_o (nI p) (nI T) (nIx (Nat.not_lt.mp hpl) (by omega)) hI hD) rfl (Nat.le_of_ble_eq_true rfl) ⟨by decide, by decide, by decide, by decide⟩ (fun D hD => ?_)
    refine V_istore dL_loops_382 (by decide) (by dsimp only [List.set] <;> rfl) rfl ?_
    refine V_iload dL_loops_384 rfl ?_
    refine V_iload dL_loops_386 rfl ?_
    refine V_if_ge dL_loops_388 (fun z => absurd z (by decide)) (fun _ => ?_)
    refine V_iconst (v := (-1)) dL_loops_391 (by decide) ?_
    refine V_goto dL_loops_392 ?_
    refine V_icmp_ne dL_loops_409 (fun z => absurd z (fun z => z rfl)) (fun _ => ?_)
    refine V_iload dL_loops_412 rfl ?_
    refine V_if_lt dL_loops_414 (fun _ => ?_) (fun z => absurd (by decide) z)
    refine V_iload dL_loops_429 rfl ?_
    refine V_goto dL_loops_431 ?_
    refine V_iret dL_loops_436 rfl rfl rfl ?_
    exact rac_l (by decide) hD
set_option maxHeartbeats 4000000 in
theorem lp_drop {Y i j hw p : Nat} (hp : p < 6) (hJ : JW C st) (hI : Inv (bk C 1) hd tc op lc tl ll lt) (hD : SC C D) : V G l RL "loops" cL_loops 16 (some .int) (rmd 7 0 0) E0 (Qm G (Rac G a C st) sz 0 0) sz 0 0 442 [some (.ref a), some (.int (nI hw)), some (.int (nI Y)), some (.int (nI tc)), some (.int (nI lc)), some (.int (nI i)), some (.int (nI j)), some (.int (nI p)), none, none, none, none, none, none, none, none] [] (B G a D) := by
  obtain ⟨c1, c2, c3, c4⟩ := iv_tc hI
  obtain ⟨c5, c6⟩ := iv_lc hI
  have hst := hJ.1
  by_cases hpl : p < lc
  · obtain ⟨w, hw⟩ : ∃ w : Int32, (p + 1 < lc → w = nI (lt (p + 1))) ∧ (¬ p + 1 < lc → w = -1) := ⟨if p + 1 < lc then nI (lt (p + 1)) else -1, fun z => if_pos z, fun z => if_neg z⟩
    have hq : ∀ D, SC C D → Ct G l yX6_length cX6_length 3 (some .int) 1 0 0 (sz + 0) [.ref a, .int (nI (p + 1)), .int 2] (B G a D) (Rq G a C w) := fun D hD => by
      by_cases hp1 : p + 1 < lc
      · rw [hw.1 hp1]
        exact q_len2 hp1 hI hD
      · rw [hw.2 hp1]
        exact q_len12_o (Or.inr rfl) (nIx (Nat.not_lt.mp hp1) (by omega)) hI hD
    refine V_aload_n dL_loops_442 rfl ?_
    refine V_iload dL_loops_443 rfl ?_
    refine V_iconst (v := 1) dL_loops_445 (by decide) ?_
    refine V_iadd dL_loops_446 ?_
    refine V_toe (ninc p) ?_
    refine V_iconst (v := 2) dL_loops_447 (by decide) ?_
    refine V_rq dL_loops_448 kL_27 ykX6_length rfl (hq _ hD) rfl (Nat.le_of_ble_eq_true rfl) ⟨by decide, by decide, by decide, by decide⟩ (fun D hD => ?_)
    refine V_istore dL_loops_451 (by decide) (by dsimp only [List.set] <;> rfl) rfl ?_
    refine V_aload_n dL_loops_453 rfl ?_
    refine V_iload dL_loops_454 rfl ?_
    refine V_rm dL_loops_456 kL_76 ykX6_dropLoop rfl (m_dropLoop hpl hJ hI hD) rfl (Nat.le_of_ble_eq_true rfl) ⟨by decide, by decide, by decide, by decide⟩ (fun D hP => ?_)
    refine V_istore dL_loops_459 (by decide) (by dsimp only [List.set] <;> rfl) rfl ?_
    refine V_iload dL_loops_461 rfl ?_
    refine V_iload dL_loops_463 rfl ?_
    refine V_iload dL_loops_465 rfl ?_
    obtain ⟨hP, hI'⟩ := hP
    obtain ⟨E, hE⟩ : ∃ E, E = D := ⟨_, rfl⟩
    rw [← hE] at hP hI'
    rw [← hE]
    have hD : SC E E := SC.rf
    have hr : ∀ D, SC E D → Ct G l yX6_length cX6_length 3 (some .int) 1 0 0 (sz + 0) [.ref a, .int (nI p), .int 2] (B G a D) (Rq G a E w) := fun D hD => by
      by_cases hp1 : p + 1 < lc
      · rw [hw.1 hp1]
        exact Rq_e (by unfold nsh; rw [if_neg (Nat.lt_irrefl p)]) (q_len2 (n := p) (by omega) hI' hD)
      · rw [hw.2 hp1]
        exact q_len12_o (Or.inr rfl) (nIx (by omega) (by omega)) hI' hD
    refine V_icmp_lt dL_loops_467 (fun _ => ?_) (fun z => absurd ((clt (by repeat (first | with_reducible rfl | with_reducible exact nlit | with_reducible apply nadd | with_reducible apply nmul | with_reducible apply nsub | with_reducible assumption | omega)) (by repeat (first | with_reducible rfl | with_reducible exact nlit | with_reducible apply nadd | with_reducible apply nmul | with_reducible apply nsub | with_reducible assumption | omega)) (by omega) (by omega)).mpr (by omega)) z)
    refine V_iload dL_loops_474 rfl ?_
    refine V_iconst (v := 1) dL_loops_476 (by decide) ?_
    refine V_isub dL_loops_477 ?_
    refine V_toe (nsub (n := 1) rfl rfl (by omega)) ?_
    refine V_icmp_ne dL_loops_478 (fun z => absurd z (fun z => z rfl)) (fun _ => ?_)
    refine V_iload dL_loops_481 rfl ?_
    refine V_if_lt dL_loops_483 (fun z => absurd z (fun z => absurd ((clt (by repeat (first | with_reducible rfl | with_reducible exact nlit | with_reducible apply nadd | with_reducible apply nmul | with_reducible apply nsub | with_reducible assumption | omega)) (by repeat (first | with_reducible rfl | with_reducible exact nlit | with_reducible apply nadd | with_reducible apply nmul | with_reducible apply nsub | with_reducible assumption | omega)) (by omega) (by omega)).mp z) (by omega))) (fun _ => ?_)
    refine V_aload_n dL_loops_486 rfl ?_
    refine V_iload dL_loops_487 rfl ?_
    refine V_iconst (v := 2) dL_loops_489 (by decide) ?_
    refine V_rq dL_loops_490 kL_27 ykX6_length rfl (hr _ hD) rfl (Nat.le_of_ble_eq_true rfl) ⟨by decide, by decide, by decide, by decide⟩ (fun D hD => ?_)
    refine V_iload dL_loops_493 rfl ?_
    refine V_icmp_ne dL_loops_495 (fun z => absurd z (fun z => z rfl)) (fun _ => ?_)
    refine V_iload dL_loops_498 rfl ?_
    refine V_goto dL_loops_500 ?_
    refine V_iret dL_loops_505 rfl rfl rfl ?_
    exact rac_r (nz (by omega)) hst hP hI' hD
  · refine V_aload_n dL_loops_442 rfl ?_
    refine V_iload dL_loops_443 rfl ?_
    refine V_iconst (v := 1) dL_loops_445 (by decide) ?_
    refine V_iadd dL_loops_446 ?_
    refine V_toe (ninc p) ?_
    refine V_iconst (v := 2) dL_loops_447 (by decide) ?_
    refine V_rq dL_loops_448 kL_27 ykX6_length rfl (q_len12_o (Or.inr rfl) (nIx (by omega) (by omega)) hI hD) rfl (Nat.le_of_ble_eq_true rfl) ⟨by decide, by decide, by decide, by decide⟩ (fun D hD => ?_)
    refine V_istore dL_loops_451 (by decide) (by dsimp only [List.set] <;> rfl) rfl ?_
    refine V_aload_n dL_loops_453 rfl ?_
    refine V_iload dL_loops_454 rfl ?_
    refine V_rq dL_loops_456 kL_76 ykX6_dropLoop rfl (q_dropLoop_o (nI p) (nIx (Nat.not_lt.mp hpl) (by omega)) hI hD) rfl (Nat.le_of_ble_eq_true rfl) ⟨by decide, by decide, by decide, by decide⟩ (fun D hD => ?_)
    refine V_istore dL_loops_459 (by decide) (by dsimp only [List.set] <;> rfl) rfl ?_
    refine V_iload dL_loops_461 rfl ?_
    refine V_iload dL_loops_463 rfl ?_
    refine V_iload dL_loops_465 rfl ?_
    refine V_icmp_lt dL_loops_467 (fun z => absurd z (fun z => absurd ((clt (by repeat (first | with_reducible rfl | with_reducible exact nlit | with_reducible apply nadd | with_reducible apply nmul | with_reducible apply nsub | with_reducible assumption | omega)) (by repeat (first | with_reducible rfl | with_reducible exact nlit | with_reducible apply nadd | with_reducible apply nmul | with_reducible apply nsub | with_reducible assumption | omega)) (by omega) (by omega)).mp z) (by omega))) (fun _ => ?_)
    refine V_iconst (v := (-1)) dL_loops_470 (by decide) ?_
    refine V_goto dL_loops_471 ?_
    refine V_icmp_ne dL_loops_478 (fun z => absurd z (fun z => z rfl)) (fun _ => ?_)
    refine V_iload dL_loops_481 rfl ?_
    refine V_if_lt dL_loops_483 (fun _ => ?_) (fun z => absurd (by decide) z)
    refine V_iload dL_loops_498 rfl ?_
    refine V_goto dL_loops_500 ?_
    refine V_iret dL_loops_505 rfl rfl rfl ?_
    exact rac_l (by decide) hD
set_option maxHeartbeats 4000000 in
theorem lp_play {Y i j hw p : Nat} (hp : p < 6) (hJ : JW C st) (hI : Inv (bk C 1) hd tc op lc tl ll lt) (hD : SC C D) : V G l RL "loops" cL_loops 16 (some .int) (rmd 7 0 0) E0 (Qm G (Rac G a C st) sz 0 0) sz 0 0 506 [some (.ref a), some (.int (nI hw)), some (.int (nI Y)), some (.int (nI tc)), some (.int (nI lc)), some (.int (nI i)), some (.int (nI j)), some (.int (nI p)), none, none, none, none, none, none, none, none] [] (B G a D) := by
  obtain ⟨c1, c2, c3, c4⟩ := iv_tc hI
  obtain ⟨c5, c6⟩ := iv_lc hI
  have hst := hJ.1
  by_cases hpl : p < lc
  · obtain ⟨b1, b2, b3, b4, b5, b6, b7⟩ := iv_lp hI hpl
    obtain ⟨d, q, p1, p2, p3, p4, p5⟩ := plBody_f (bv := shv C 10 12 p) (bn := shn C 10 12 p) (bs := sht C 10 12 p) (size := ll p) (lt p) 0 (C 3, hd, 0, 0) 0 0 rfl rfl (Nat.le_refl _)
    have p1' : (pB C hd p (ll p) (lt p)).1.2.2.1 = nI d := p1
    have hST : lt p * ll p ≤ 99 * 12 := Nat.mul_le_mul b6 b3
    refine V_aload_n dL_loops_506 rfl ?_
    refine V_iload dL_loops_507 rfl ?_
    refine V_iconst (v := 2) dL_loops_509 (by decide) ?_
    refine V_rq dL_loops_510 kL_27 ykX6_length rfl (q_len2 hpl hI hD) rfl (Nat.le_of_ble_eq_true rfl) ⟨by decide, by decide, by decide, by decide⟩ (fun D hD => ?_)
    refine V_istore dL_loops_513 (by decide) (by dsimp only [List.set] <;> rfl) rfl ?_
    refine V_iload dL_loops_515 rfl ?_
    refine V_if_ge dL_loops_517 (fun _ => ?_) (fun z => absurd ((cle (by repeat (first | with_reducible rfl | with_reducible exact nlit | with_reducible apply nadd | with_reducible apply nmul | with_reducible apply nsub | with_reducible assumption | omega)) (by repeat (first | with_reducible rfl | with_reducible exact nlit | with_reducible apply nadd | with_reducible apply nmul | with_reducible apply nsub | with_reducible assumption | omega)) (by omega) (by omega)).mpr (by omega)) z)
    refine V_aload_n dL_loops_524 rfl ?_
    refine V_iload dL_loops_525 rfl ?_
    refine V_iload dL_loops_527 rfl ?_
    refine V_iconst (v := 0) dL_loops_529 (by decide) ?_
    refine V_rq dL_loops_530 kL_48 ykX6_ifPlayed rfl (q_ifPlayed 0 hpl ⟨b5, b6⟩ (by decide) hI hD) rfl (Nat.le_of_ble_eq_true rfl) ⟨by decide, by decide, by decide, by decide⟩ (fun D hD => ?_)
    refine V_istore dL_loops_533 (by decide) (by dsimp only [List.set] <;> rfl) rfl ?_
    refine V_iload dL_loops_535 rfl ?_
    refine V_if_ge dL_loops_537 (fun _ => ?_) (fun z => absurd ((cle (by repeat (first | with_reducible rfl | with_reducible exact nlit | with_reducible apply nadd | with_reducible apply nmul | with_reducible apply nsub | with_reducible assumption | omega)) (by repeat (first | with_reducible rfl | with_reducible exact nlit | with_reducible apply nadd | with_reducible apply nmul | with_reducible apply nsub | with_reducible assumption | omega)) (by omega) (by omega)).mpr (by omega)) z)
    refine V_aload_n dL_loops_544 rfl ?_
    refine V_iload dL_loops_545 rfl ?_
    refine V_iload dL_loops_547 rfl ?_
    refine V_iconst (v := 1) dL_loops_549 (by decide) ?_
    refine V_rq dL_loops_550 kL_48 ykX6_ifPlayed rfl (q_ifPlayed 1 hpl ⟨b5, b6⟩ (by decide) hI hD) rfl (Nat.le_of_ble_eq_true rfl) ⟨by decide, by decide, by decide, by decide⟩ (fun D hD => ?_)
    refine V_istore dL_loops_553 (by decide) (by dsimp only [List.set] <;> rfl) rfl ?_
    refine V_iload dL_loops_555 rfl ?_
    refine V_if_ge dL_loops_557 (fun _ => ?_) (fun z => absurd ((cle (by repeat (first | with_reducible rfl | with_reducible exact nlit | with_reducible apply nadd | with_reducible apply nmul | with_reducible apply nsub | with_reducible assumption | omega)) (by repeat (first | with_reducible rfl | with_reducible exact nlit | with_reducible apply nadd | with_reducible apply nmul | with_reducible apply nsub | with_reducible assumption | omega)) (by omega) (by omega)).mpr (by omega)) z)
    refine V_aload_n dL_loops_564 rfl ?_
    refine V_iload dL_loops_565 rfl ?_
    refine V_iload dL_loops_567 rfl ?_
    refine V_iconst (v := 2) dL_loops_569 (by decide) ?_
    refine V_rq dL_loops_570 kL_48 ykX6_ifPlayed rfl (q_ifPlayed 2 hpl ⟨b5, b6⟩ (by decide) hI hD) rfl (Nat.le_of_ble_eq_true rfl) ⟨by decide, by decide, by decide, by decide⟩ (fun D hD => ?_)
    refine V_istore dL_loops_573 (by decide) (by dsimp only [List.set] <;> rfl) rfl ?_
    refine V_iload dL_loops_575 rfl ?_
    refine V_if_ge dL_loops_577 (fun _ => ?_) (fun z => absurd ((cle (by repeat (first | with_reducible rfl | with_reducible exact nlit | with_reducible apply nadd | with_reducible apply nmul | with_reducible apply nsub | with_reducible assumption | omega)) (by repeat (first | with_reducible rfl | with_reducible exact nlit | with_reducible apply nadd | with_reducible apply nmul | with_reducible apply nsub | with_reducible assumption | omega)) (by omega) (by omega)).mpr (by omega)) z)
    refine V_aload_n dL_loops_584 rfl ?_
    refine V_iload dL_loops_585 rfl ?_
    refine V_iload dL_loops_587 rfl ?_
    refine V_iconst (v := 3) dL_loops_589 (by decide) ?_
    refine V_rq dL_loops_590 kL_48 ykX6_ifPlayed rfl (q_ifPlayed 3 hpl ⟨b5, b6⟩ (by decide) hI hD) rfl (Nat.le_of_ble_eq_true rfl) ⟨by decide, by decide, by decide, by decide⟩ (fun D hD => ?_)
    refine V_istore dL_loops_593 (by decide) (by dsimp only [List.set] <;> rfl) rfl ?_
    refine V_aload_n dL_loops_595 rfl ?_
    refine V_iconst (v := 5) dL_loops_596 (by decide) ?_
    refine V_rq dL_loops_597 kL_20 ykX6_total rfl (q_tot5 hI hD) rfl (Nat.le_of_ble_eq_true rfl) ⟨by decide, by decide, by decide, by decide⟩ (fun D hD => ?_)
    refine V_istore dL_loops_600 (by decide) (by dsimp only [List.set] <;> rfl) rfl ?_
    refine V_aload_n dL_loops_602 rfl ?_
    refine V_bipush (v := 7) dL_loops_603 (by decide) ?_
    refine V_rq dL_loops_605 kL_20 ykX6_total rfl (q_tot7 hI hD) rfl (Nat.le_of_ble_eq_true rfl) ⟨by decide, by decide, by decide, by decide⟩ (fun D hD => ?_)
    refine V_istore dL_loops_608 (by decide) (by dsimp only [List.set] <;> rfl) rfl ?_
    rcases c4 with ho | ⟨ho, -⟩
    · have e0 : pV (pB C hd p (ll p) (lt p)) 0 = (pB C hd p (ll p) (lt p)).1.2.2.1 := rfl
      have e1 : pV (pB C hd p (ll p) (lt p)) 1 = (pB C hd p (ll p) (lt p)).2 := rfl
      have e2 : pV (pB C hd p (ll p) (lt p)) 2 = sumF (pB C hd p (ll p) (lt p)).1.1 30 := rfl
      have e3 : pV (pB C hd p (ll p) (lt p)) 3 = nI (pB C hd p (ll p) (lt p)).1.2.1 := rfl
      rw [e0, e1, e2, e3]
      refine V_aload_n dL_loops_610 rfl ?_
      refine V_iload dL_loops_611 rfl ?_
      refine V_rm dL_loops_613 kL_79 ykX6_play rfl (m_play hpl ho hJ hI hD) rfl (Nat.le_of_ble_eq_true rfl) ⟨by decide, by decide, by decide, by decide⟩ (fun D hP => ?_)
      refine V_istore dL_loops_616 (by decide) (by dsimp only [List.set] <;> rfl) rfl ?_
      refine V_iload dL_loops_618 rfl ?_
      obtain ⟨hP, hI', h3, h11, h13, h14⟩ := hP
      obtain ⟨E, hE⟩ : ∃ E, E = D := ⟨_, rfl⟩
      rw [← hE] at hP hI' h3 h11 h13 h14
      rw [← hE]
      have hD : SC E E := SC.rf
      refine V_if_lt dL_loops_620 (fun z => absurd z (fun z => absurd ((clt (by repeat (first | with_reducible rfl | with_reducible exact nlit | with_reducible apply nadd | with_reducible apply nmul | with_reducible apply nsub | with_reducible assumption | omega)) (by repeat (first | with_reducible rfl | with_reducible exact nlit | with_reducible apply nadd | with_reducible apply nmul | with_reducible apply nsub | with_reducible assumption | omega)) (by omega) (by omega)).mp z) (by omega))) (fun _ => ?_)
      refine V_aload_n dL_loops_623 rfl ?_
      refine V_iconst (v := 3) dL_loops_624 (by decide) ?_
      refine V_rq dL_loops_625 kL_20 ykX6_total rfl (q_tot3_0 ho hI' hD) rfl (Nat.le_of_ble_eq_true rfl) ⟨by decide, by decide, by decide, by decide⟩ (fun D hD => ?_)
      refine V_bipush (v := (-5)) dL_loops_628 (by decide) ?_
      refine V_icmp_eq dL_loops_630 (fun _ => ?_) (fun z => absurd rfl z)
      refine V_iload dL_loops_657 rfl ?_
      refine V_iload dL_loops_659 rfl ?_
      refine V_icmp_ne dL_loops_661 (fun z => absurd z (fun z => z rfl)) (fun _ => ?_)
      refine V_aload_n dL_loops_664 rfl ?_
      refine V_bipush (v := 8) dL_loops_665 (by decide) ?_
      refine V_rq dL_loops_667 kL_20 ykX6_total rfl (Rq_e h14 (q_tot8 hI' hD)) rfl (Nat.le_of_ble_eq_true rfl) ⟨by decide, by decide, by decide, by decide⟩ (fun D hD => ?_)
      refine V_iload dL_loops_670 rfl ?_
      refine V_icmp_ne dL_loops_672 (fun z => absurd z (fun z => z rfl)) (fun _ => ?_)
      refine V_aload_n dL_loops_675 rfl ?_
      refine V_iconst (v := 1) dL_loops_676 (by decide) ?_
      refine V_rq dL_loops_677 kL_20 ykX6_total rfl (Rq_e (by rw [h3]) (q_tot1 hI' hD)) rfl (Nat.le_of_ble_eq_true rfl) ⟨by decide, by decide, by decide, by decide⟩ (fun D hD => ?_)
      refine V_iload dL_loops_680 rfl ?_
      refine V_icmp_ne dL_loops_682 (fun z => absurd z (fun z => z rfl)) (fun _ => ?_)
      refine V_aload_n dL_loops_685 rfl ?_
      refine V_iconst (v := 0) dL_loops_686 (by decide) ?_
      refine V_rq dL_loops_687 kL_20 ykX6_total rfl (q_tot0 hI' hD) rfl (Nat.le_of_ble_eq_true rfl) ⟨by decide, by decide, by decide, by decide⟩ (fun D hD => ?_)
      refine V_iload dL_loops_690 rfl ?_
      refine V_icmp_ne dL_loops_692 (fun z => absurd z (fun z => z rfl)) (fun _ => ?_)
      refine V_aload_n dL_loops_695 rfl ?_
      refine V_iconst (v := 5) dL_loops_696 (by decide) ?_
      refine V_rq dL_loops_697 kL_20 ykX6_total rfl (Rq_e h11 (q_tot5 hI' hD)) rfl (Nat.le_of_ble_eq_true rfl) ⟨by decide, by decide, by decide, by decide⟩ (fun D hD => ?_)
      refine V_iload dL_loops_700 rfl ?_
      refine V_iload dL_loops_702 rfl ?_
      refine V_iadd dL_loops_704 ?_
      refine V_icmp_ne dL_loops_705 (fun z => absurd z (fun z => z rfl)) (fun _ => ?_)
      refine V_aload_n dL_loops_708 rfl ?_
      refine V_bipush (v := 7) dL_loops_709 (by decide) ?_
      refine V_rq dL_loops_711 kL_20 ykX6_total rfl (Rq_e h13 (q_tot7 hI' hD)) rfl (Nat.le_of_ble_eq_true rfl) ⟨by decide, by decide, by decide, by decide⟩ (fun D hD => ?_)
      refine V_iload dL_loops_714 rfl ?_
      refine V_iconst (v := 1) dL_loops_716 (by decide) ?_
      refine V_iadd dL_loops_717 ?_
      refine V_icmp_ne dL_loops_718 (fun z => absurd z (fun z => z rfl)) (fun _ => ?_)
      refine V_iload dL_loops_721 rfl ?_
      refine V_goto dL_loops_723 ?_
      refine V_iret dL_loops_728 rfl rfl rfl ?_
      exact rac_r (by rw [p1']; exact nz (by omega)) hst hP hI' hD
    · have ht := iv_tr hI (i := tc) (by omega)
      refine V_aload_n dL_loops_610 rfl ?_
      refine V_iload dL_loops_611 rfl ?_
      refine V_rq dL_loops_613 kL_79 ykX6_play rfl (q_play_o hpl ho hI hD) rfl (Nat.le_of_ble_eq_true rfl) ⟨by decide, by decide, by decide, by decide⟩ (fun D hD => ?_)
      refine V_istore dL_loops_616 (by decide) (by dsimp only [List.set] <;> rfl) rfl ?_
      refine V_iload dL_loops_618 rfl ?_
      refine V_if_lt dL_loops_620 (fun z => absurd z (fun z => absurd ((clt (by repeat (first | with_reducible rfl | with_reducible exact nlit | with_reducible apply nadd | with_reducible apply nmul | with_reducible apply nsub | with_reducible assumption | omega)) (by repeat (first | with_reducible rfl | with_reducible exact nlit | with_reducible apply nadd | with_reducible apply nmul | with_reducible apply nsub | with_reducible assumption | omega)) (by omega) (by omega)).mp z) (by omega))) (fun _ => ?_)
      refine V_aload_n dL_loops_623 rfl ?_
      refine V_iconst (v := 3) dL_loops_624 (by decide) ?_
      refine V_rq dL_loops_625 kL_20 ykX6_total rfl (q_tot3_1 ho hI hD) rfl (Nat.le_of_ble_eq_true rfl) ⟨by decide, by decide, by decide, by decide⟩ (fun D hD => ?_)
      refine V_bipush (v := (-5)) dL_loops_628 (by decide) ?_
      refine V_icmp_eq dL_loops_630 (fun z => absurd z (n5 (by omega))) (fun _ => ?_)
      refine V_iload dL_loops_633 rfl ?_
      refine V_iload dL_loops_635 rfl ?_
      refine V_if_ge dL_loops_637 (fun _ => ?_) (fun z => absurd ((cle (by repeat (first | with_reducible rfl | with_reducible exact nlit | with_reducible apply nadd | with_reducible apply nmul | with_reducible apply nsub | with_reducible assumption | omega)) (by repeat (first | with_reducible rfl | with_reducible exact nlit | with_reducible apply nadd | with_reducible apply nmul | with_reducible apply nsub | with_reducible assumption | omega)) (by omega) (by omega)).mpr (by omega)) z)
      refine V_bipush (v := (-4)) dL_loops_644 (by decide) ?_
      refine V_icmp_ne dL_loops_646 (fun z => absurd z (fun z => z rfl)) (fun _ => ?_)
      refine V_iload dL_loops_649 rfl ?_
      refine V_goto dL_loops_651 ?_
      refine V_iret dL_loops_656 rfl rfl rfl ?_
      exact rac_l (by decide) hD
  · refine V_aload_n dL_loops_506 rfl ?_
    refine V_iload dL_loops_507 rfl ?_
    refine V_iconst (v := 2) dL_loops_509 (by decide) ?_
    refine V_rq dL_loops_510 kL_27 ykX6_length rfl (q_len12_o (Or.inr rfl) (nIx (Nat.not_lt.mp hpl) (by omega)) hI hD) rfl (Nat.le_of_ble_eq_true rfl) ⟨by decide, by decide, by decide, by decide⟩ (fun D hD => ?_)
    refine V_istore dL_loops_513 (by decide) (by dsimp only [List.set] <;> rfl) rfl ?_
    refine V_iload dL_loops_515 rfl ?_
    refine V_if_ge dL_loops_517 (fun z => absurd z (by decide)) (fun _ => ?_)
    refine V_iconst (v := 0) dL_loops_520 (by decide) ?_
    refine V_goto dL_loops_521 ?_
    refine V_istore dL_loops_533 (by decide) (by dsimp only [List.set] <;> rfl) rfl ?_
    refine V_iload dL_loops_535 rfl ?_
    refine V_if_ge dL_loops_537 (fun z => absurd z (by decide)) (fun _ => ?_)
    refine V_iconst (v := 0) dL_loops_540 (by decide) ?_
    refine V_goto dL_loops_541 ?_
    refine V_istore dL_loops_553 (by decide) (by dsimp only [List.set] <;> rfl) rfl ?_
    refine V_iload dL_loops_555 rfl ?_
    refine V_if_ge dL_loops_557 (fun z => absurd z (by decide)) (fun _ => ?_)
    refine V_iconst (v := 0) dL_loops_560 (by decide) ?_
    refine V_goto dL_loops_561 ?_
    refine V_istore dL_loops_573 (by decide) (by dsimp only [List.set] <;> rfl) rfl ?_
    refine V_iload dL_loops_575 rfl ?_
    refine V_if_ge dL_loops_577 (fun z => absurd z (by decide)) (fun _ => ?_)
    refine V_iconst (v := 0) dL_loops_580 (by decide) ?_
    refine V_goto dL_loops_581 ?_
    refine V_istore dL_loops_593 (by decide) (by dsimp only [List.set] <;> rfl) rfl ?_
    refine V_aload_n dL_loops_595 rfl ?_
    refine V_iconst (v := 5) dL_loops_596 (by decide) ?_
    refine V_rq dL_loops_597 kL_20 ykX6_total rfl (q_tot5 hI hD) rfl (Nat.le_of_ble_eq_true rfl) ⟨by decide, by decide, by decide, by decide⟩ (fun D hD => ?_)
    refine V_istore dL_loops_600 (by decide) (by dsimp only [List.set] <;> rfl) rfl ?_
    refine V_aload_n dL_loops_602 rfl ?_
    refine V_bipush (v := 7) dL_loops_603 (by decide) ?_
    refine V_rq dL_loops_605 kL_20 ykX6_total rfl (q_tot7 hI hD) rfl (Nat.le_of_ble_eq_true rfl) ⟨by decide, by decide, by decide, by decide⟩ (fun D hD => ?_)
    refine V_istore dL_loops_608 (by decide) (by dsimp only [List.set] <;> rfl) rfl ?_
    refine V_aload_n dL_loops_610 rfl ?_
    refine V_iload dL_loops_611 rfl ?_
    refine V_rq dL_loops_613 kL_79 ykX6_play rfl (q_play_x (nI p) (nIx (Nat.not_lt.mp hpl) (by omega)) hI hD) rfl (Nat.le_of_ble_eq_true rfl) ⟨by decide, by decide, by decide, by decide⟩ (fun D hD => ?_)
    refine V_istore dL_loops_616 (by decide) (by dsimp only [List.set] <;> rfl) rfl ?_
    refine V_iload dL_loops_618 rfl ?_
    refine V_if_lt dL_loops_620 (fun _ => ?_) (fun z => absurd (by decide) z)
    refine V_iload dL_loops_633 rfl ?_
    refine V_iload dL_loops_635 rfl ?_
    refine V_if_ge dL_loops_637 (fun z => absurd z (by decide)) (fun _ => ?_)
    refine V_iconst (v := (-1)) dL_loops_640 (by decide) ?_
    refine V_goto dL_loops_641 ?_
    refine V_icmp_ne dL_loops_646 (fun z => absurd z (fun z => z rfl)) (fun _ => ?_)
    refine V_iload dL_loops_649 rfl ?_
    refine V_goto dL_loops_651 ?_
    refine V_iret dL_loops_656 rfl rfl rfl ?_
    exact rac_l (by decide) hD
set_option maxHeartbeats 4000000 in
theorem tL_loops {Y hw : Nat} (hY : Y < 2147483648) (hh : hw < 5) (hJ : JW C st) (hI : Inv (bk C 1) hd tc op lc tl ll lt) (hD : SC C D) : Ct G l yL_loops cL_loops 16 (some .int) 7 0 0 sz [.ref a, .int (nI hw), .int (nI Y)] (B G a D) (Rac G a C st) := by
  obtain ⟨c1, c2, c3, c4⟩ := iv_tc hI
  have k42 : ∀ (i j : Nat) (D : CT), SC C D → ((tc = 0 ∧ i = 0 ∧ j = 0) ∨ (i < tc ∧ j < tc)) → V G l RL "loops" cL_loops 16 (some .int) (rmd 7 0 0) E0 (Qm G (Rac G a C st) sz 0 0) sz 0 0 42 [some (.ref a), some (.int (nI hw)), some (.int (nI Y)), some (.int (nI tc)), some (.int (nI lc)), some (.int (nI i)), some (.int (nI j)), none, none, none, none, none, none, none, none, none] [] (B G a D) := by
    intro i j D hD hij
    have e6 : nI Y - nI Y / 6 * 6 = nI (Y % 6) := by
      rw [show (6 : Int32) = nI 6 from rfl, pk_rem hY (by decide) (by decide)]
    have h6 : Y % 6 < 6 := Nat.mod_lt _ (by decide)
    by_cases h0 : hw = 0
    · refine V_iload_n dL_loops_42 rfl ?_
      refine V_if_ne dL_loops_43 (fun z => absurd z (fun z => z (by rw [h0]; rfl))) (fun _ => ?_)
      exact lp_gen hij hJ hI hD
    · refine V_iload_n dL_loops_42 rfl ?_
      refine V_if_ne dL_loops_43 (fun _ => ?_) (fun z => absurd z ((fun z => absurd ((ceq (by repeat (first | with_reducible rfl | with_reducible exact nlit | with_reducible apply nadd | with_reducible apply nmul | with_reducible apply nsub | with_reducible assumption | omega)) (by repeat (first | with_reducible rfl | with_reducible exact nlit | with_reducible apply nadd | with_reducible apply nmul | with_reducible apply nsub | with_reducible assumption | omega)) (by omega) (by omega)).mp z) (by omega))))
      by_cases h1 : hw = 1
      · refine V_iload_n dL_loops_212 rfl ?_
        refine V_iconst (v := 1) dL_loops_213 (by decide) ?_
        refine V_icmp_ne dL_loops_214 (fun z => absurd z (fun z => z (by rw [h1]; rfl))) (fun _ => ?_)
        exact lp_fold hij hJ hI hD
      · refine V_iload_n dL_loops_212 rfl ?_
        refine V_iconst (v := 1) dL_loops_213 (by decide) ?_
        refine V_icmp_ne dL_loops_214 (fun _ => ?_) (fun z => absurd z ((fun z => absurd ((ceq (by repeat (first | with_reducible rfl | with_reducible exact nlit | with_reducible apply nadd | with_reducible apply nmul | with_reducible apply nsub | with_reducible assumption | omega)) (by repeat (first | with_reducible rfl | with_reducible exact nlit | with_reducible apply nadd | with_reducible apply nmul | with_reducible apply nsub | with_reducible assumption | omega)) (by omega) (by omega)).mp z) (by omega))))
        refine V_iload_n dL_loops_343 rfl ?_
        refine V_bipush (v := 6) dL_loops_344 (by decide) ?_
        refine V_irem dL_loops_346 (by decide) ?_
        refine V_toe e6 ?_
        refine V_istore dL_loops_347 (by decide) (by dsimp only [List.set] <;> rfl) rfl ?_
        refine V_iload_n dL_loops_349 rfl ?_
        refine V_iconst (v := 2) dL_loops_350 (by decide) ?_
        by_cases h2 : hw = 2
        · refine V_icmp_ne dL_loops_351 (fun z => absurd z (fun z => z (by rw [h2]; rfl))) (fun _ => ?_)
          exact lp_set hY h6 hJ hI hD
        · refine V_icmp_ne dL_loops_351 (fun _ => ?_) (fun z => absurd z ((fun z => absurd ((ceq (by repeat (first | with_reducible rfl | with_reducible exact nlit | with_reducible apply nadd | with_reducible apply nmul | with_reducible apply nsub | with_reducible assumption | omega)) (by repeat (first | with_reducible rfl | with_reducible exact nlit | with_reducible apply nadd | with_reducible apply nmul | with_reducible apply nsub | with_reducible assumption | omega)) (by omega) (by omega)).mp z) (by omega))))
          by_cases h3 : hw = 3
          · refine V_iload_n dL_loops_437 rfl ?_
            refine V_iconst (v := 3) dL_loops_438 (by decide) ?_
            refine V_icmp_ne dL_loops_439 (fun z => absurd z (fun z => z (by rw [h3]; rfl))) (fun _ => ?_)
            exact lp_drop h6 hJ hI hD
          · refine V_iload_n dL_loops_437 rfl ?_
            refine V_iconst (v := 3) dL_loops_438 (by decide) ?_
            refine V_icmp_ne dL_loops_439 (fun _ => ?_) (fun z => absurd z ((fun z => absurd ((ceq (by repeat (first | with_reducible rfl | with_reducible exact nlit | with_reducible apply nadd | with_reducible apply nmul | with_reducible apply nsub | with_reducible assumption | omega)) (by repeat (first | with_reducible rfl | with_reducible exact nlit | with_reducible apply nadd | with_reducible apply nmul | with_reducible apply nsub | with_reducible assumption | omega)) (by omega) (by omega)).mp z) (by omega))))
            exact lp_play h6 hJ hI hD
  refine Ct.of (own := RL) (mn := "loops") (L0 := [some (.ref a), some (.int (nI hw)), some (.int (nI Y)), none, none, none, none, none, none, none, none, none, none, none, none, none]) (by decide +kernel) rfl rfl rfl (Nat.le_of_ble_eq_true rfl) rfl ?_
  by_cases ht : tc = 0
  · refine V_aload_n dL_loops_0 rfl ?_
    refine V_iconst (v := 2) dL_loops_1 (by decide) ?_
    refine V_rq dL_loops_2 kL_20 ykX6_total rfl (q_tot2 hI hD) rfl (Nat.le_of_ble_eq_true rfl) ⟨by decide, by decide, by decide, by decide⟩ (fun D hD => ?_)
    refine V_istore_n dL_loops_5 (by decide) (by dsimp only [List.set] <;> rfl) rfl ?_
    refine V_aload_n dL_loops_6 rfl ?_
    refine V_iconst (v := 4) dL_loops_7 (by decide) ?_
    refine V_rq dL_loops_8 kL_20 ykX6_total rfl (q_tot4 hI hD) rfl (Nat.le_of_ble_eq_true rfl) ⟨by decide, by decide, by decide, by decide⟩ (fun D hD => ?_)
    refine V_istore dL_loops_11 (by decide) (by dsimp only [List.set] <;> rfl) rfl ?_
    refine V_iload_n dL_loops_13 rfl ?_
    refine V_if_ne dL_loops_14 (fun z => absurd z (fun z => z (by rw [ht]; rfl))) (fun _ => ?_)
    refine V_iconst (v := 0) dL_loops_17 (by decide) ?_
    refine V_goto dL_loops_18 ?_
    refine V_istore dL_loops_24 (by decide) (by dsimp only [List.set] <;> rfl) rfl ?_
    refine V_iload_n dL_loops_26 rfl ?_
    refine V_if_ne dL_loops_27 (fun z => absurd z (fun z => z (by rw [ht]; rfl))) (fun _ => ?_)
    refine V_iconst (v := 0) dL_loops_30 (by decide) ?_
    refine V_goto dL_loops_31 ?_
    refine V_istore dL_loops_40 (by decide) (by dsimp only [List.set] <;> rfl) rfl ?_
    exact k42 0 0 D hD (Or.inl ⟨ht, rfl, rfl⟩)
  · have hz : ¬ nI tc = 0 := fun z => ht ((neq (b := 0) (by omega) (by decide)).mp z)
    have e1 : nI Y - nI Y / nI tc * nI tc = nI (Y % tc) := pk_rem hY (by omega) (by omega)
    have e2 : nI Y / 6 - nI Y / 6 / nI tc * nI tc = nI (Y / 6 % tc) := by
      rw [show (6 : Int32) = nI 6 from rfl, pk_div hY (by decide) (by decide), pk_rem (Nat.lt_of_le_of_lt (Nat.div_le_self _ _) hY) (by omega) (by omega)]
    refine V_aload_n dL_loops_0 rfl ?_
    refine V_iconst (v := 2) dL_loops_1 (by decide) ?_
    refine V_rq dL_loops_2 kL_20 ykX6_total rfl (q_tot2 hI hD) rfl (Nat.le_of_ble_eq_true rfl) ⟨by decide, by decide, by decide, by decide⟩ (fun D hD => ?_)
    refine V_istore_n dL_loops_5 (by decide) (by dsimp only [List.set] <;> rfl) rfl ?_
    refine V_aload_n dL_loops_6 rfl ?_
    refine V_iconst (v := 4) dL_loops_7 (by decide) ?_
    refine V_rq dL_loops_8 kL_20 ykX6_total rfl (q_tot4 hI hD) rfl (Nat.le_of_ble_eq_true rfl) ⟨by decide, by decide, by decide, by decide⟩ (fun D hD => ?_)
    refine V_istore dL_loops_11 (by decide) (by dsimp only [List.set] <;> rfl) rfl ?_
    refine V_iload_n dL_loops_13 rfl ?_
    refine V_if_ne dL_loops_14 (fun _ => ?_) (fun z => absurd z hz)
    refine V_iload_n dL_loops_21 rfl ?_
    refine V_iload_n dL_loops_22 rfl ?_
    refine V_irem dL_loops_23 hz ?_
    refine V_toe e1 ?_
    refine V_istore dL_loops_24 (by decide) (by dsimp only [List.set] <;> rfl) rfl ?_
    refine V_iload_n dL_loops_26 rfl ?_
    refine V_if_ne dL_loops_27 (fun _ => ?_) (fun z => absurd z hz)
    refine V_iload_n dL_loops_34 rfl ?_
    refine V_bipush (v := 6) dL_loops_35 (by decide) ?_
    refine V_idiv dL_loops_37 (by decide) ?_
    refine V_iload_n dL_loops_38 rfl ?_
    refine V_irem dL_loops_39 hz ?_
    refine V_toe e2 ?_
    refine V_istore dL_loops_40 (by decide) (by dsimp only [List.set] <;> rfl) rfl ?_
    exact k42 (Y % tc) (Y / 6 % tc) D hD (Or.inr ⟨Nat.mod_lt _ (by omega), Nat.mod_lt _ (by omega)⟩)
end LAW
