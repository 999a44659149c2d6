/-! The law: step. -/
/-- what act, step and loops answer, and leave -/
def Rac (G : GT) (a : Nat) (C : CT) (st : Nat) : Option Value → Hp → Prop := fun r h' => ∃ (t : Int32) (D : CT), r = some (.int t) ∧ h' = B G a D ∧ ((-9 < t.toInt ∧ t.toInt < 0 ∧ SC C D) ∨ (0 ≤ t.toInt ∧ Psh C st D ∧ IB (bk D 1)))
section LAW
variable {G : GT} {l : Launch} {sz a st hd tc op lc : Nat} {tl ll lt : Nat → Nat} {C D E : CT} {h : Hp}
set_option maxHeartbeats 4000000 in
theorem st_tail {vb m hd' q : Nat} {H o5 O c11 c12 told fl due : Int32} (hvb : vb ≤ 5) (hm : m < 100) (hI : Inv (bk E 1) hd' tc op lc tl ll lt) (hh : hd' = if vb = 0 then m else hd) (hdue : E 3 hd' = due) (h4 : vb = 4 → m < 30 ∧ E 3 m = H) (h3 : vb = 3 → m < 30 ∧ E 3 m = o5) (h11 : E 1 1 = c11 + 1) (h12 : E 1 2 = c12 + fl) (hfl : fl = 0 ∨ fl = 1) (hO : (op = 0 ∧ O = -5) ∨ (op = 1 ∧ O = nI q ∧ tl tc = q + 1 ∧ E 5 (tc * 12 + q) = nI vb ∧ E 6 (tc * 12 + q) = nI m)) (ht : 0 ≤ told.toInt) (hst : st ≤ 4) (hP : Psh C st E) (hD : SC E D) : V G l RL "step" cL_step 13 (some .int) (rmd 6 0 0) E0 (Qm G (Rac G a C st) sz 0 0) sz 0 0 164 [some (.ref a), some (.int (nI vb)), some (.int (nI m)), some (.int (nI hd)), some (.int H), some (.int o5), some (.int O), some (.int c11), some (.int c12), some (.int told), some (.int fl), some (.int due), none] [] (B G a D) := by
  obtain ⟨-, hro⟩ := iv_ro hI
  have k340 : ∀ (D : CT), SC E D → V G l RL "step" cL_step 13 (some .int) (rmd 6 0 0) E0 (Qm G (Rac G a C st) sz 0 0) sz 0 0 340 [some (.ref a), some (.int (nI vb)), some (.int (nI m)), some (.int (nI hd)), some (.int H), some (.int o5), some (.int O), some (.int c11), some (.int c12), some (.int told), some (.int fl), some (.int due), some (.int 1)] [] (B G a D) := by
    intro D hD
    refine V_iload dL_step_340 rfl ?_
    refine V_goto dL_step_342 ?_
    refine V_iret dL_step_347 rfl rfl rfl ?_
    exact ⟨told, D, rfl, rfl, Or.inr ⟨ht, Psh_SC hP hst hD, _, _, _, _, _, _, _, Inv_SC hD hI⟩⟩
  have k230 : ∀ (D : CT), SC E D → V G l RL "step" cL_step 13 (some .int) (rmd 6 0 0) E0 (Qm G (Rac G a C st) sz 0 0) sz 0 0 230 [some (.ref a), some (.int (nI vb)), some (.int (nI m)), some (.int (nI hd)), some (.int H), some (.int o5), some (.int O), some (.int c11), some (.int c12), some (.int told), some (.int fl), some (.int due), none] [] (B G a D) := by
    intro D hD
    refine V_aload_n dL_step_230 rfl ?_
    refine V_iconst (v := 5) dL_step_231 (by decide) ?_
    refine V_rq dL_step_232 kL_20 ykX6_total rfl (Rq_e h11 (q_tot5 hI hD)) rfl (Nat.le_of_ble_eq_true rfl) ⟨by decide, by decide, by decide, by decide⟩ (fun D hD => ?_)
    refine V_iload dL_step_235 rfl ?_
    refine V_iconst (v := 1) dL_step_237 (by decide) ?_
    refine V_iadd dL_step_238 ?_
    refine V_icmp_ne dL_step_239 (fun z => absurd z (fun z => z rfl)) (fun _ => ?_)
    refine V_aload_n dL_step_242 rfl ?_
    refine V_bipush (v := 6) dL_step_243 (by decide) ?_
    refine V_rq dL_step_245 kL_20 ykX6_total rfl (Rq_e h12 (q_tot6 hI hD)) rfl (Nat.le_of_ble_eq_true rfl) ⟨by decide, by decide, by decide, by decide⟩ (fun D hD => ?_)
    refine V_iload dL_step_248 rfl ?_
    refine V_iload dL_step_250 rfl ?_
    have k264 : ∀ (D : CT), SC E D → V G l RL "step" cL_step 13 (some .int) (rmd 6 0 0) E0 (Qm G (Rac G a C st) sz 0 0) sz 0 0 264 [some (.ref a), some (.int (nI vb)), some (.int (nI m)), some (.int (nI hd)), some (.int H), some (.int o5), some (.int O), some (.int c11), some (.int c12), some (.int told), some (.int fl), some (.int due), none] [] (B G a D) := by
      intro D hD
      refine V_iconst (v := 1) dL_step_264 (by decide) ?_
      refine V_goto dL_step_265 ?_
      refine V_istore dL_step_269 (by decide) (by dsimp only [List.set] <;> rfl) rfl ?_
      refine V_iload dL_step_271 rfl ?_
      refine V_if_eq dL_step_273 (fun z => absurd z (by decide)) (fun _ => ?_)
      rcases hO with ⟨o1, o2⟩ | ⟨o1, o2, o3, o4, o6⟩
      · refine V_iload dL_step_276 rfl ?_
        refine V_bipush (v := (-5)) dL_step_278 (by decide) ?_
        refine V_icmp_ne dL_step_280 (fun z => absurd z (fun z => z o2)) (fun _ => ?_)
        refine V_aload_n dL_step_283 rfl ?_
        refine V_iconst (v := 3) dL_step_284 (by decide) ?_
        refine V_rq dL_step_285 kL_20 ykX6_total rfl (q_tot3_0 o1 hI hD) rfl (Nat.le_of_ble_eq_true rfl) ⟨by decide, by decide, by decide, by decide⟩ (fun D hD => ?_)
        refine V_bipush (v := (-5)) dL_step_288 (by decide) ?_
        refine V_icmp_ne dL_step_290 (fun z => absurd z (fun z => z rfl)) (fun _ => ?_)
        refine V_goto dL_step_293 ?_
        exact k340 D hD
      · have htr := iv_tr hI (i := tc) (by omega)
        have hn5 : ¬ O = -5 := by rw [o2]; exact n5 (by omega)
        refine V_iload dL_step_276 rfl ?_
        refine V_bipush (v := (-5)) dL_step_278 (by decide) ?_
        refine V_icmp_ne dL_step_280 (fun _ => ?_) (fun z => absurd z hn5)
        refine V_aload_n dL_step_296 rfl ?_
        refine V_iconst (v := 3) dL_step_297 (by decide) ?_
        refine V_rq dL_step_298 kL_20 ykX6_total rfl (q_tot3_1 o1 hI hD) rfl (Nat.le_of_ble_eq_true rfl) ⟨by decide, by decide, by decide, by decide⟩ (fun D hD => ?_)
        refine V_iload dL_step_301 rfl ?_
        refine V_iconst (v := 1) dL_step_303 (by decide) ?_
        refine V_iadd dL_step_304 ?_
        refine V_toe (show O + 1 = nI (tl tc) by rw [o2, o3]; exact ninc q) ?_
        refine V_icmp_ne dL_step_305 (fun z => absurd z (fun z => z rfl)) (fun _ => ?_)
        refine V_aload_n dL_step_308 rfl ?_
        refine V_aload_n dL_step_309 rfl ?_
        refine V_iconst (v := 2) dL_step_310 (by decide) ?_
        refine V_rq dL_step_311 kL_20 ykX6_total rfl (q_tot2 hI hD) rfl (Nat.le_of_ble_eq_true rfl) ⟨by decide, by decide, by decide, by decide⟩ (fun D hD => ?_)
        refine V_iload dL_step_314 rfl ?_
        refine V_toe o2 ?_
        refine V_iconst (v := 0) dL_step_316 (by decide) ?_
        refine V_rq dL_step_317 kL_23 ykX6_ofTry rfl (Rq_e o4 (q_oT0 (n := tc) (k := q) (by omega) (by omega) hI hD)) rfl (Nat.le_of_ble_eq_true rfl) ⟨by decide, by decide, by decide, by decide⟩ (fun D hD => ?_)
        refine V_iload_n dL_step_320 rfl ?_
        refine V_icmp_ne dL_step_321 (fun z => absurd z (fun z => z rfl)) (fun _ => ?_)
        refine V_aload_n dL_step_324 rfl ?_
        refine V_aload_n dL_step_325 rfl ?_
        refine V_iconst (v := 2) dL_step_326 (by decide) ?_
        refine V_rq dL_step_327 kL_20 ykX6_total rfl (q_tot2 hI hD) rfl (Nat.le_of_ble_eq_true rfl) ⟨by decide, by decide, by decide, by decide⟩ (fun D hD => ?_)
        refine V_iload dL_step_330 rfl ?_
        refine V_toe o2 ?_
        refine V_iconst (v := 1) dL_step_332 (by decide) ?_
        refine V_rq dL_step_333 kL_23 ykX6_ofTry rfl (Rq_e o6 (q_oT1 (n := tc) (k := q) (by omega) (by omega) hI hD)) rfl (Nat.le_of_ble_eq_true rfl) ⟨by decide, by decide, by decide, by decide⟩ (fun D hD => ?_)
        refine V_iload_n dL_step_336 rfl ?_
        refine V_icmp_ne dL_step_337 (fun z => absurd z (fun z => z rfl)) (fun _ => ?_)
        exact k340 D hD
    rcases hfl with hfl | hfl
    · refine V_if_eq dL_step_252 (fun _ => ?_) (fun z => absurd hfl z)
      refine V_iconst (v := 0) dL_step_259 (by decide) ?_
      refine V_iadd dL_step_260 ?_
      refine V_icmp_ne dL_step_261 (fun z => absurd z (fun z => z (by rw [hfl]))) (fun _ => ?_)
      exact k264 D hD
    · refine V_if_eq dL_step_252 (fun z => absurd z (by rw [hfl]; decide)) (fun _ => ?_)
      refine V_iconst (v := 1) dL_step_255 (by decide) ?_
      refine V_goto dL_step_256 ?_
      refine V_iadd dL_step_260 ?_
      refine V_icmp_ne dL_step_261 (fun z => absurd z (fun z => z (by rw [hfl]))) (fun _ => ?_)
      exact k264 D hD
  have k215 : ∀ (D : CT), SC E D → V G l RL "step" cL_step 13 (some .int) (rmd 6 0 0) E0 (Qm G (Rac G a C st) sz 0 0) sz 0 0 215 [some (.ref a), some (.int (nI vb)), some (.int (nI m)), some (.int (nI hd)), some (.int H), some (.int o5), some (.int O), some (.int c11), some (.int c12), some (.int told), some (.int fl), some (.int due), none] [] (B G a D) := by
    intro D hD
    by_cases hvb3 : vb = 3
    · obtain ⟨g1, g2⟩ := h3 hvb3
      refine V_iload_n dL_step_215 rfl ?_
      refine V_iconst (v := 3) dL_step_216 (by decide) ?_
      refine V_icmp_ne dL_step_217 (fun z => absurd z (fun z => z ((ceq (by repeat (first | with_reducible rfl | with_reducible exact nlit | with_reducible apply nadd | with_reducible apply nmul | with_reducible apply nsub | with_reducible assumption | omega)) (by repeat (first | with_reducible rfl | with_reducible exact nlit | with_reducible apply nadd | with_reducible apply nmul | with_reducible apply nsub | with_reducible assumption | omega)) (by omega) (by omega)).mpr (by omega)))) (fun _ => ?_)
      refine V_aload_n dL_step_220 rfl ?_
      refine V_iload_n dL_step_221 rfl ?_
      refine V_rq dL_step_222 kL_14 ykX6_cell rfl (Rq_e g2 (q_cl g1 hD)) rfl (Nat.le_of_ble_eq_true rfl) ⟨by decide, by decide, by decide, by decide⟩ (fun D hD => ?_)
      refine V_iload dL_step_225 rfl ?_
      refine V_icmp_ne dL_step_227 (fun z => absurd z (fun z => z rfl)) (fun _ => ?_)
      exact k230 D hD
    · refine V_iload_n dL_step_215 rfl ?_
      refine V_iconst (v := 3) dL_step_216 (by decide) ?_
      refine V_icmp_ne dL_step_217 (fun _ => ?_) (fun z => absurd z ((fun z => absurd ((ceq (by repeat (first | with_reducible rfl | with_reducible exact nlit | with_reducible apply nadd | with_reducible apply nmul | with_reducible apply nsub | with_reducible assumption | omega)) (by repeat (first | with_reducible rfl | with_reducible exact nlit | with_reducible apply nadd | with_reducible apply nmul | with_reducible apply nsub | with_reducible assumption | omega)) (by omega) (by omega)).mp z) (by omega))))
      exact k230 D hD
  have k181 : ∀ (D : CT), SC E D → V G l RL "step" cL_step 13 (some .int) (rmd 6 0 0) E0 (Qm G (Rac G a C st) sz 0 0) sz 0 0 181 [some (.ref a), some (.int (nI vb)), some (.int (nI m)), some (.int (nI hd)), some (.int H), some (.int o5), some (.int O), some (.int c11), some (.int c12), some (.int told), some (.int fl), some (.int due), none] [] (B G a D) := by
    intro D hD
    refine V_aload_n dL_step_181 rfl ?_
    refine V_aload_n dL_step_182 rfl ?_
    refine V_iconst (v := 0) dL_step_183 (by decide) ?_
    refine V_rq dL_step_184 kL_20 ykX6_total rfl (q_tot0 hI hD) rfl (Nat.le_of_ble_eq_true rfl) ⟨by decide, by decide, by decide, by decide⟩ (fun D hD => ?_)
    refine V_rq dL_step_187 kL_14 ykX6_cell rfl (Rq_e hdue (q_cl hro.1 hD)) rfl (Nat.le_of_ble_eq_true rfl) ⟨by decide, by decide, by decide, by decide⟩ (fun D hD => ?_)
    refine V_iload dL_step_190 rfl ?_
    refine V_icmp_ne dL_step_192 (fun z => absurd z (fun z => z rfl)) (fun _ => ?_)
    by_cases hvb4 : vb = 4
    · obtain ⟨g1, g2⟩ := h4 hvb4
      refine V_iload_n dL_step_195 rfl ?_
      refine V_iconst (v := 4) dL_step_196 (by decide) ?_
      refine V_icmp_ne dL_step_197 (fun z => absurd z (fun z => z ((ceq (by repeat (first | with_reducible rfl | with_reducible exact nlit | with_reducible apply nadd | with_reducible apply nmul | with_reducible apply nsub | with_reducible assumption | omega)) (by repeat (first | with_reducible rfl | with_reducible exact nlit | with_reducible apply nadd | with_reducible apply nmul | with_reducible apply nsub | with_reducible assumption | omega)) (by omega) (by omega)).mpr (by omega)))) (fun _ => ?_)
      refine V_aload_n dL_step_200 rfl ?_
      refine V_iload_n dL_step_201 rfl ?_
      refine V_rq dL_step_202 kL_14 ykX6_cell rfl (Rq_e g2 (q_cl g1 hD)) rfl (Nat.le_of_ble_eq_true rfl) ⟨by decide, by decide, by decide, by decide⟩ (fun D hD => ?_)
      refine V_iload dL_step_205 rfl ?_
      refine V_icmp_eq dL_step_207 (fun _ => ?_) (fun z => absurd rfl z)
      exact k215 D hD
    · refine V_iload_n dL_step_195 rfl ?_
      refine V_iconst (v := 4) dL_step_196 (by decide) ?_
      refine V_icmp_ne dL_step_197 (fun _ => ?_) (fun z => absurd z ((fun z => absurd ((ceq (by repeat (first | with_reducible rfl | with_reducible exact nlit | with_reducible apply nadd | with_reducible apply nmul | with_reducible apply nsub | with_reducible assumption | omega)) (by repeat (first | with_reducible rfl | with_reducible exact nlit | with_reducible apply nadd | with_reducible apply nmul | with_reducible apply nsub | with_reducible assumption | omega)) (by omega) (by omega)).mp z) (by omega))))
      exact k215 D hD
  by_cases hvb0 : vb = 0
  · rw [if_pos hvb0] at hh
    refine V_aload_n dL_step_164 rfl ?_
    refine V_iconst (v := 0) dL_step_165 (by decide) ?_
    refine V_rq dL_step_166 kL_20 ykX6_total rfl (q_tot0 hI hD) rfl (Nat.le_of_ble_eq_true rfl) ⟨by decide, by decide, by decide, by decide⟩ (fun D hD => ?_)
    refine V_iload_n dL_step_169 rfl ?_
    refine V_if_ne dL_step_170 (fun z => absurd z (fun z => z (by rw [hvb0]; rfl))) (fun _ => ?_)
    refine V_iload_n dL_step_173 rfl ?_
    refine V_goto dL_step_174 ?_
    refine V_icmp_ne dL_step_178 (fun z => absurd z (fun z => z (by rw [hh]))) (fun _ => ?_)
    exact k181 D hD
  · rw [if_neg hvb0] at hh
    refine V_aload_n dL_step_164 rfl ?_
    refine V_iconst (v := 0) dL_step_165 (by decide) ?_
    refine V_rq dL_step_166 kL_20 ykX6_total rfl (q_tot0 hI hD) rfl (Nat.le_of_ble_eq_true rfl) ⟨by decide, by decide, by decide, by decide⟩ (fun D hD => ?_)
    refine V_iload_n dL_step_169 rfl ?_
    refine V_if_ne dL_step_170 (fun _ => ?_) (fun z => absurd z ((fun z => absurd ((ceq (by repeat (first | with_reducible rfl | with_reducible exact nlit | with_reducible apply nadd | with_reducible apply nmul | with_reducible apply nsub | with_reducible assumption | omega)) (by repeat (first | with_reducible rfl | with_reducible exact nlit | with_reducible apply nadd | with_reducible apply nmul | with_reducible apply nsub | with_reducible assumption | omega)) (by omega) (by omega)).mp z) (by omega))))
    refine V_iload_n dL_step_177 rfl ?_
    refine V_icmp_ne dL_step_178 (fun z => absurd z (fun z => z (by rw [hh]))) (fun _ => ?_)
    exact k181 D hD
theorem rs_0 {c : Nat → Int32} {hd m : Nat} : rowStep c hd (nI 0) m = (c, m) := by unfold rowStep; rw [if_pos (by decide)]
theorem rs_1 {c : Nat → Int32} {hd m : Nat} : rowStep c hd (nI 1) m = (upd c hd (nI m), hd) := by unfold rowStep; rw [if_neg (by decide), if_pos (by decide)]
theorem rs_2 {c : Nat → Int32} {hd m : Nat} : rowStep c hd (nI 2) m = (upd c hd (c hd + nI m - (c hd + nI m) / 100 * 100), hd) := by unfold rowStep; rw [if_neg (by decide), if_neg (by decide), if_pos (by decide)]
theorem rs_3 {c : Nat → Int32} {hd m : Nat} : rowStep c hd (nI 3) m = (upd c hd (c m), hd) := by unfold rowStep; rw [if_neg (by decide), if_neg (by decide), if_neg (by decide), if_pos (by decide)]
theorem rs_4 {c : Nat → Int32} {hd m : Nat} : rowStep c hd (nI 4) m = (upd (upd c hd (c m)) m (c hd), hd) := by unfold rowStep; rw [if_neg (by decide), if_neg (by decide), if_neg (by decide), if_neg (by decide), if_pos (by decide)]
theorem rs_5 {c : Nat → Int32} {hd m : Nat} : rowStep c hd (nI 5) m = (c, hd) := by unfold rowStep; rw [if_neg (by decide), if_neg (by decide), if_neg (by decide), if_neg (by decide), if_neg (by decide)]
theorem ps_V {c : Nat → Int32} {hd m vb : Nat} (h : vb < 5) : pStep c hd (nI vb) m := by
  refine Or.inl ?_
  unfold isV
  rcases (show vb = 0 ∨ vb = 1 ∨ vb = 2 ∨ vb = 3 ∨ vb = 4 by omega) with z | z | z | z | z <;> subst z <;> decide
theorem ps_5 {c : Nat → Int32} {hd m : Nat} : pStep c hd (nI 5) m ↔ c hd ≤ nI m := ⟨fun z => z.elim (fun w => absurd w (by unfold isV; decide)) id, Or.inr⟩
set_option maxHeartbeats 8000000 in
theorem tL_step {vb m : Nat} (hvb : vb ≤ 5) (hm : m < 100) (hx : inR (nI vb) (nI m)) (hJ : JW C st) (hI : Inv (bk C 1) hd tc op lc tl ll lt) (hD : SC C D) : Ct G l yL_step cL_step 13 (some .int) 6 0 0 sz [.ref a, .int (nI vb), .int (nI m)] (B G a D) (Rac G a C st) := by
  obtain ⟨c1, c2, c3, c4⟩ := iv_tc hI
  obtain ⟨-, hro⟩ := iv_ro hI
  have hst := hJ.1
  obtain ⟨w, w1, w2⟩ := hro.2 hd hro.1
  have hv : (0 : Int32) ≤ nI vb ∧ nI vb ≤ 5 := ⟨(nle (a := 0) (by omega) (by omega)).mpr (by omega), (nle (b := 5) (by omega) (by omega)).mpr hvb⟩
  have h34 : vb = 3 ∨ vb = 4 → m < 30 := fun z => by
    have := inR_34 hx (z.imp (fun w => by rw [w]; rfl) (fun w => by rw [w]; rfl))
    rw [nTN (by omega)] at this
    exact this
  have h00 : vb = 0 → m < 30 := fun z => by
    have := (inR_nat hx).2.2 (Or.inl (by rw [z]; rfl))
    rw [nTN (by omega)] at this
    exact this
  have hro2 := RO_step hro hx
  rw [nTN (n := m) (by omega)] at hro2
  have k37 : ∀ (o5 O : Int32) (D : CT), SC C D → (m < 30 → o5 = C 3 m) → ((op = 0 ∧ O = -5) ∨ (op = 1 ∧ O = nI (tl tc))) → V G l RL "step" cL_step 13 (some .int) (rmd 6 0 0) E0 (Qm G (Rac G a C st) sz 0 0) sz 0 0 37 [some (.ref a), some (.int (nI vb)), some (.int (nI m)), some (.int (nI hd)), some (.int (C 3 hd)), some (.int o5), some (.int O), none, none, none, none, none, none] [] (B G a D) := by
    intro o5 O D hD ho5 hO
    by_cases hf : op = 1 ∧ tl tc = 12
    · have hO12 : O = 12 := by
        rcases hO with ⟨o1, -⟩ | ⟨-, o2⟩
        · omega
        · rw [o2, hf.2]; rfl
      refine V_aload_n dL_step_37 rfl ?_
      refine V_iconst (v := 5) dL_step_38 (by decide) ?_
      refine V_rq dL_step_39 kL_20 ykX6_total rfl (q_tot5 hI hD) rfl (Nat.le_of_ble_eq_true rfl) ⟨by decide, by decide, by decide, by decide⟩ (fun D hD => ?_)
      refine V_istore dL_step_42 (by decide) (by dsimp only [List.set] <;> rfl) rfl ?_
      refine V_aload_n dL_step_44 rfl ?_
      refine V_bipush (v := 6) dL_step_45 (by decide) ?_
      refine V_rq dL_step_47 kL_20 ykX6_total rfl (q_tot6 hI hD) rfl (Nat.le_of_ble_eq_true rfl) ⟨by decide, by decide, by decide, by decide⟩ (fun D hD => ?_)
      refine V_istore dL_step_50 (by decide) (by dsimp only [List.set] <;> rfl) rfl ?_
      refine V_aload_n dL_step_52 rfl ?_
      refine V_iload_n dL_step_53 rfl ?_
      refine V_iload_n dL_step_54 rfl ?_
      refine V_rq dL_step_55 kL_54 ykX6_step rfl (q_step_f (nI vb) (nI m) hv hx hf.1 hf.2 hI hD) rfl (Nat.le_of_ble_eq_true rfl) ⟨by decide, by decide, by decide, by decide⟩ (fun D hD => ?_)
      refine V_istore dL_step_58 (by decide) (by dsimp only [List.set] <;> rfl) rfl ?_
      refine V_iload dL_step_60 rfl ?_
      refine V_bipush (v := 12) dL_step_62 (by decide) ?_
      refine V_icmp_ne dL_step_64 (fun z => absurd z (fun z => z hO12)) (fun _ => ?_)
      refine V_iload dL_step_67 rfl ?_
      refine V_bipush (v := (-3)) dL_step_69 (by decide) ?_
      refine V_icmp_ne dL_step_71 (fun z => absurd z (fun z => z rfl)) (fun _ => ?_)
      refine V_iload dL_step_74 rfl ?_
      refine V_goto dL_step_76 ?_
      refine V_iret dL_step_81 rfl rfl rfl ?_
      exact ⟨-3, D, rfl, rfl, Or.inl ⟨by decide, by decide, hD⟩⟩
    · have hO12 : ¬ O = 12 := by
        rcases hO with ⟨-, o2⟩ | ⟨o1, o2⟩
        · rw [o2]; decide
        · rw [o2]
          intro z
          have ht := (iv_tr hI (i := tc) (by omega)).2.1
          exact hf ⟨o1, (neq (b := 12) (by omega) (by omega)).mp z⟩
      refine V_aload_n dL_step_37 rfl ?_
      refine V_iconst (v := 5) dL_step_38 (by decide) ?_
      refine V_rq dL_step_39 kL_20 ykX6_total rfl (q_tot5 hI hD) rfl (Nat.le_of_ble_eq_true rfl) ⟨by decide, by decide, by decide, by decide⟩ (fun D hD => ?_)
      refine V_istore dL_step_42 (by decide) (by dsimp only [List.set] <;> rfl) rfl ?_
      refine V_aload_n dL_step_44 rfl ?_
      refine V_bipush (v := 6) dL_step_45 (by decide) ?_
      refine V_rq dL_step_47 kL_20 ykX6_total rfl (q_tot6 hI hD) rfl (Nat.le_of_ble_eq_true rfl) ⟨by decide, by decide, by decide, by decide⟩ (fun D hD => ?_)
      refine V_istore dL_step_50 (by decide) (by dsimp only [List.set] <;> rfl) rfl ?_
      refine V_aload_n dL_step_52 rfl ?_
      refine V_iload_n dL_step_53 rfl ?_
      refine V_iload_n dL_step_54 rfl ?_
      refine V_rm dL_step_55 kL_54 ykX6_step rfl (m_step hv hm hx hf hJ hI hD) rfl (Nat.le_of_ble_eq_true rfl) ⟨by decide, by decide, by decide, by decide⟩ (fun D hP => ?_)
      refine V_istore dL_step_58 (by decide) (by dsimp only [List.set] <;> rfl) rfl ?_
      obtain ⟨P1, P2, P3, P4, P5, P6⟩ := hP
      refine V_iload dL_step_60 rfl ?_
      refine V_bipush (v := 12) dL_step_62 (by decide) ?_
      refine V_icmp_ne dL_step_64 (fun _ => ?_) (fun z => absurd z hO12)
      have hO' : (op = 0 ∧ O = -5) ∨ (op = 1 ∧ O = nI (tl tc) ∧ nup tl tc (tl tc + 1) tc = tl tc + 1 ∧ D 5 (tc * 12 + tl tc) = nI vb ∧ D 6 (tc * 12 + tl tc) = nI m) := by
        rcases hO with o | ⟨o1, o2⟩
        · exact Or.inl o
        · exact Or.inr ⟨o1, o2, nup_s, P6 o1⟩
      rcases (show vb = 0 ∨ vb = 1 ∨ vb = 2 ∨ vb = 3 ∨ vb = 4 ∨ vb = 5 by omega) with z | z | z | z | z | z <;> subst z
      · have hm30 := h00 rfl
        rw [if_pos (ps_V (by decide)), rs_0] at *
        obtain ⟨x, x1, x2⟩ := hro.2 m hm30
        refine V_iload_n dL_step_82 rfl ?_
        refine V_iconst (v := 5) dL_step_83 (by decide) ?_
        refine V_icmp_ne dL_step_84 (fun _ => ?_) (fun z => absurd z ((by decide)))
        refine V_iconst (v := 0) dL_step_97 (by decide) ?_
        refine V_istore dL_step_98 (by decide) (by dsimp only [List.set] <;> rfl) rfl ?_
        refine V_iload_n dL_step_100 rfl ?_
        refine V_if_ne dL_step_101 (fun z => absurd z (fun z => z rfl)) (fun _ => ?_)
        refine V_iload dL_step_104 rfl ?_
        refine V_goto dL_step_106 ?_
        refine V_istore dL_step_145 (by decide) (by dsimp only [List.set] <;> rfl) rfl ?_
        refine V_iload dL_step_147 rfl ?_
        refine V_iload dL_step_149 rfl ?_
        refine V_if_eq dL_step_151 (fun _ => ?_) (fun z => absurd rfl z)
        refine V_iload dL_step_159 rfl ?_
        refine V_icmp_ne dL_step_161 (fun z => absurd z (fun z => z (by rw [ho5 hm30]))) (fun _ => ?_)
        refine st_tail (hd := hd) (q := tl tc) (by decide) hm P2 rfl (by rw [P3, ho5 hm30]) (fun z => absurd z (by decide)) (fun z => absurd z (by decide)) P4 P5 (Or.inl rfl) hO' ?_ hst P1 SC.rf
        show 0 ≤ (C 3 m).toInt
        rw [x2, nI_toInt (by omega)]
        omega
      · rw [if_pos (ps_V (by decide)), rs_1] at *
        have e : (upd (C 3) hd (nI m)) hd = nI m := pk_us
        refine V_iload_n dL_step_82 rfl ?_
        refine V_iconst (v := 5) dL_step_83 (by decide) ?_
        refine V_icmp_ne dL_step_84 (fun _ => ?_) (fun z => absurd z ((by decide)))
        refine V_iconst (v := 0) dL_step_97 (by decide) ?_
        refine V_istore dL_step_98 (by decide) (by dsimp only [List.set] <;> rfl) rfl ?_
        refine V_iload_n dL_step_100 rfl ?_
        refine V_if_ne dL_step_101 (fun _ => ?_) (fun z => absurd z ((by decide)))
        refine V_iload_n dL_step_109 rfl ?_
        refine V_iconst (v := 1) dL_step_110 (by decide) ?_
        refine V_icmp_ne dL_step_111 (fun z => absurd z (fun z => z rfl)) (fun _ => ?_)
        refine V_iload_n dL_step_114 rfl ?_
        refine V_goto dL_step_115 ?_
        refine V_istore dL_step_145 (by decide) (by dsimp only [List.set] <;> rfl) rfl ?_
        refine V_iload dL_step_147 rfl ?_
        refine V_iload dL_step_149 rfl ?_
        refine V_if_eq dL_step_151 (fun _ => ?_) (fun z => absurd rfl z)
        refine V_iload dL_step_159 rfl ?_
        refine V_icmp_ne dL_step_161 (fun z => absurd z (fun z => z e)) (fun _ => ?_)
        refine st_tail (hd := hd) (q := tl tc) (by decide) hm P2 rfl (by rw [P3]; exact e) (fun z => absurd z (by decide)) (fun z => absurd z (by decide)) P4 P5 (Or.inl rfl) hO' ?_ hst P1 SC.rf
        show 0 ≤ ((upd (C 3) hd (nI m)) hd).toInt
        rw [e, nI_toInt (by omega)]
        omega
      · rw [if_pos (ps_V (by decide)), rs_2] at *
        have e : (upd (C 3) hd (C 3 hd + nI m - (C 3 hd + nI m) / 100 * 100)) hd = C 3 hd + nI m - (C 3 hd + nI m) / 100 * 100 := pk_us
        refine V_iload_n dL_step_82 rfl ?_
        refine V_iconst (v := 5) dL_step_83 (by decide) ?_
        refine V_icmp_ne dL_step_84 (fun _ => ?_) (fun z => absurd z ((by decide)))
        refine V_iconst (v := 0) dL_step_97 (by decide) ?_
        refine V_istore dL_step_98 (by decide) (by dsimp only [List.set] <;> rfl) rfl ?_
        refine V_iload_n dL_step_100 rfl ?_
        refine V_if_ne dL_step_101 (fun _ => ?_) (fun z => absurd z ((by decide)))
        refine V_iload_n dL_step_109 rfl ?_
        refine V_iconst (v := 1) dL_step_110 (by decide) ?_
        refine V_icmp_ne dL_step_111 (fun _ => ?_) (fun z => absurd z ((by decide)))
        refine V_iload_n dL_step_118 rfl ?_
        refine V_iconst (v := 2) dL_step_119 (by decide) ?_
        refine V_icmp_ne dL_step_120 (fun z => absurd z (fun z => z rfl)) (fun _ => ?_)
        refine V_iload dL_step_123 rfl ?_
        refine V_iload_n dL_step_125 rfl ?_
        refine V_iadd dL_step_126 ?_
        refine V_bipush (v := 100) dL_step_127 (by decide) ?_
        refine V_irem dL_step_129 (by decide) ?_
        refine V_goto dL_step_130 ?_
        refine V_istore dL_step_145 (by decide) (by dsimp only [List.set] <;> rfl) rfl ?_
        refine V_iload dL_step_147 rfl ?_
        refine V_iload dL_step_149 rfl ?_
        refine V_if_eq dL_step_151 (fun _ => ?_) (fun z => absurd rfl z)
        refine V_iload dL_step_159 rfl ?_
        refine V_icmp_ne dL_step_161 (fun z => absurd z (fun z => z e)) (fun _ => ?_)
        refine st_tail (hd := hd) (q := tl tc) (by decide) hm P2 rfl (by rw [P3]; exact e) (fun z => absurd z (by decide)) (fun z => absurd z (by decide)) P4 P5 (Or.inl rfl) hO' ?_ hst P1 SC.rf
        show 0 ≤ ((upd (C 3) hd (C 3 hd + nI m - (C 3 hd + nI m) / 100 * 100)) hd).toInt
        rw [e, w2, nI_add, show (100 : Int32) = nI 100 from rfl, pk_rem (by omega) (by decide) (by decide), nI_toInt (by omega)]
        omega
      · have hm30 := h34 (Or.inl rfl)
        rw [if_pos (ps_V (by decide)), rs_3] at *
        have e : (upd (C 3) hd (C 3 m)) hd = C 3 m := pk_us
        have e2 : (upd (C 3) hd (C 3 m)) m = C 3 m := by
          by_cases hmh : m = hd
          · rw [hmh, pk_us]
          · exact pk_un hmh
        obtain ⟨x, x1, x2⟩ := hro.2 m hm30
        refine V_iload_n dL_step_82 rfl ?_
        refine V_iconst (v := 5) dL_step_83 (by decide) ?_
        refine V_icmp_ne dL_step_84 (fun _ => ?_) (fun z => absurd z ((by decide)))
        refine V_iconst (v := 0) dL_step_97 (by decide) ?_
        refine V_istore dL_step_98 (by decide) (by dsimp only [List.set] <;> rfl) rfl ?_
        refine V_iload_n dL_step_100 rfl ?_
        refine V_if_ne dL_step_101 (fun _ => ?_) (fun z => absurd z ((by decide)))
        refine V_iload_n dL_step_109 rfl ?_
        refine V_iconst (v := 1) dL_step_110 (by decide) ?_
        refine V_icmp_ne dL_step_111 (fun _ => ?_) (fun z => absurd z ((by decide)))
        refine V_iload_n dL_step_118 rfl ?_
        refine V_iconst (v := 2) dL_step_119 (by decide) ?_
        refine V_icmp_ne dL_step_120 (fun _ => ?_) (fun z => absurd z ((by decide)))
        refine V_iload_n dL_step_133 rfl ?_
        refine V_iconst (v := 5) dL_step_134 (by decide) ?_
        refine V_icmp_ne dL_step_135 (fun _ => ?_) (fun z => absurd z ((by decide)))
        refine V_iload dL_step_143 rfl ?_
        refine V_istore dL_step_145 (by decide) (by dsimp only [List.set] <;> rfl) rfl ?_
        refine V_iload dL_step_147 rfl ?_
        refine V_iload dL_step_149 rfl ?_
        refine V_if_eq dL_step_151 (fun _ => ?_) (fun z => absurd rfl z)
        refine V_iload dL_step_159 rfl ?_
        refine V_icmp_ne dL_step_161 (fun z => absurd z (fun z => z (by rw [ho5 hm30]; exact e))) (fun _ => ?_)
        refine st_tail (hd := hd) (q := tl tc) (by decide) hm P2 rfl (by rw [P3, ho5 hm30]; exact e) (fun z => absurd z (by decide)) (fun _ => ⟨hm30, by rw [P3, ho5 hm30]; exact e2⟩) P4 P5 (Or.inl rfl) hO' ?_ hst P1 SC.rf
        show 0 ≤ ((upd (C 3) hd (C 3 m)) hd).toInt
        rw [e, x2, nI_toInt (by omega)]
        omega
      · have hm30 := h34 (Or.inr rfl)
        rw [if_pos (ps_V (by decide)), rs_4] at *
        have e : (upd (upd (C 3) hd (C 3 m)) m (C 3 hd)) hd = C 3 m := by
          by_cases hmh : hd = m
          · rw [hmh, pk_us]
          · rw [pk_un hmh, pk_us]
        obtain ⟨x, x1, x2⟩ := hro.2 m hm30
        refine V_iload_n dL_step_82 rfl ?_
        refine V_iconst (v := 5) dL_step_83 (by decide) ?_
        refine V_icmp_ne dL_step_84 (fun _ => ?_) (fun z => absurd z ((by decide)))
        refine V_iconst (v := 0) dL_step_97 (by decide) ?_
        refine V_istore dL_step_98 (by decide) (by dsimp only [List.set] <;> rfl) rfl ?_
        refine V_iload_n dL_step_100 rfl ?_
        refine V_if_ne dL_step_101 (fun _ => ?_) (fun z => absurd z ((by decide)))
        refine V_iload_n dL_step_109 rfl ?_
        refine V_iconst (v := 1) dL_step_110 (by decide) ?_
        refine V_icmp_ne dL_step_111 (fun _ => ?_) (fun z => absurd z ((by decide)))
        refine V_iload_n dL_step_118 rfl ?_
        refine V_iconst (v := 2) dL_step_119 (by decide) ?_
        refine V_icmp_ne dL_step_120 (fun _ => ?_) (fun z => absurd z ((by decide)))
        refine V_iload_n dL_step_133 rfl ?_
        refine V_iconst (v := 5) dL_step_134 (by decide) ?_
        refine V_icmp_ne dL_step_135 (fun _ => ?_) (fun z => absurd z ((by decide)))
        refine V_iload dL_step_143 rfl ?_
        refine V_istore dL_step_145 (by decide) (by dsimp only [List.set] <;> rfl) rfl ?_
        refine V_iload dL_step_147 rfl ?_
        refine V_iload dL_step_149 rfl ?_
        refine V_if_eq dL_step_151 (fun _ => ?_) (fun z => absurd rfl z)
        refine V_iload dL_step_159 rfl ?_
        refine V_icmp_ne dL_step_161 (fun z => absurd z (fun z => z (by rw [ho5 hm30]; exact e))) (fun _ => ?_)
        refine st_tail (hd := hd) (q := tl tc) (by decide) hm P2 rfl (by rw [P3, ho5 hm30]; exact e) (fun _ => ⟨hm30, by rw [P3]; exact pk_us⟩) (fun z => absurd z (by decide)) P4 P5 (Or.inl rfl) hO' ?_ hst P1 SC.rf
        show 0 ≤ ((upd (upd (C 3) hd (C 3 m)) m (C 3 hd)) hd).toInt
        rw [e, x2, nI_toInt (by omega)]
        omega
      · rw [rs_5] at *
        by_cases hp : C 3 hd ≤ nI m
        · rw [if_pos (ps_5.mpr hp)] at *
          refine V_iload_n dL_step_82 rfl ?_
          refine V_iconst (v := 5) dL_step_83 (by decide) ?_
          refine V_icmp_ne dL_step_84 (fun z => absurd z (fun z => z rfl)) (fun _ => ?_)
          refine V_iload dL_step_87 rfl ?_
          refine V_iload_n dL_step_89 rfl ?_
          refine V_icmp_le dL_step_90 (fun _ => ?_) (fun z => absurd hp z)
          refine V_iconst (v := 0) dL_step_97 (by decide) ?_
          refine V_istore dL_step_98 (by decide) (by dsimp only [List.set] <;> rfl) rfl ?_
          refine V_iload_n dL_step_100 rfl ?_
          refine V_if_ne dL_step_101 (fun _ => ?_) (fun z => absurd z ((by decide)))
          refine V_iload_n dL_step_109 rfl ?_
          refine V_iconst (v := 1) dL_step_110 (by decide) ?_
          refine V_icmp_ne dL_step_111 (fun _ => ?_) (fun z => absurd z ((by decide)))
          refine V_iload_n dL_step_118 rfl ?_
          refine V_iconst (v := 2) dL_step_119 (by decide) ?_
          refine V_icmp_ne dL_step_120 (fun _ => ?_) (fun z => absurd z ((by decide)))
          refine V_iload_n dL_step_133 rfl ?_
          refine V_iconst (v := 5) dL_step_134 (by decide) ?_
          refine V_icmp_ne dL_step_135 (fun z => absurd z (fun z => z rfl)) (fun _ => ?_)
          refine V_iload dL_step_138 rfl ?_
          refine V_goto dL_step_140 ?_
          refine V_istore dL_step_145 (by decide) (by dsimp only [List.set] <;> rfl) rfl ?_
          refine V_iload dL_step_147 rfl ?_
          refine V_iload dL_step_149 rfl ?_
          refine V_if_eq dL_step_151 (fun _ => ?_) (fun z => absurd rfl z)
          refine V_iload dL_step_159 rfl ?_
          refine V_icmp_ne dL_step_161 (fun z => absurd z (fun z => z rfl)) (fun _ => ?_)
          refine st_tail (hd := hd) (q := tl tc) (by decide) hm P2 rfl (by rw [P3]) (fun z => absurd z (by decide)) (fun z => absurd z (by decide)) P4 P5 (Or.inl rfl) hO' ?_ hst P1 SC.rf
          show 0 ≤ (C 3 hd).toInt
          rw [w2, nI_toInt (by omega)]
          omega
        · rw [if_neg (fun z => hp (ps_5.mp z))] at *
          refine V_iload_n dL_step_82 rfl ?_
          refine V_iconst (v := 5) dL_step_83 (by decide) ?_
          refine V_icmp_ne dL_step_84 (fun z => absurd z (fun z => z rfl)) (fun _ => ?_)
          refine V_iload dL_step_87 rfl ?_
          refine V_iload_n dL_step_89 rfl ?_
          refine V_icmp_le dL_step_90 (fun z => absurd z hp) (fun _ => ?_)
          refine V_iconst (v := 1) dL_step_93 (by decide) ?_
          refine V_goto dL_step_94 ?_
          refine V_istore dL_step_98 (by decide) (by dsimp only [List.set] <;> rfl) rfl ?_
          refine V_iload_n dL_step_100 rfl ?_
          refine V_if_ne dL_step_101 (fun _ => ?_) (fun z => absurd z ((by decide)))
          refine V_iload_n dL_step_109 rfl ?_
          refine V_iconst (v := 1) dL_step_110 (by decide) ?_
          refine V_icmp_ne dL_step_111 (fun _ => ?_) (fun z => absurd z ((by decide)))
          refine V_iload_n dL_step_118 rfl ?_
          refine V_iconst (v := 2) dL_step_119 (by decide) ?_
          refine V_icmp_ne dL_step_120 (fun _ => ?_) (fun z => absurd z ((by decide)))
          refine V_iload_n dL_step_133 rfl ?_
          refine V_iconst (v := 5) dL_step_134 (by decide) ?_
          refine V_icmp_ne dL_step_135 (fun z => absurd z (fun z => z rfl)) (fun _ => ?_)
          refine V_iload dL_step_138 rfl ?_
          refine V_goto dL_step_140 ?_
          refine V_istore dL_step_145 (by decide) (by dsimp only [List.set] <;> rfl) rfl ?_
          refine V_iload dL_step_147 rfl ?_
          refine V_iload dL_step_149 rfl ?_
          refine V_if_eq dL_step_151 (fun z => absurd z (by decide)) (fun _ => ?_)
          refine V_bipush (v := 100) dL_step_154 (by decide) ?_
          refine V_goto dL_step_156 ?_
          refine V_icmp_ne dL_step_161 (fun z => absurd z (fun z => z rfl)) (fun _ => ?_)
          exact st_tail (hd := hd) (q := tl tc) (by decide) hm P2 rfl (by rw [P3]) (fun z => absurd z (by decide)) (fun z => absurd z (by decide)) P4 P5 (Or.inr rfl) hO' (by decide) hst P1 SC.rf
  have k28 : ∀ (o5 : Int32) (D : CT), SC C D → (m < 30 → o5 = C 3 m) → V G l RL "step" cL_step 13 (some .int) (rmd 6 0 0) E0 (Qm G (Rac G a C st) sz 0 0) sz 0 0 28 [some (.ref a), some (.int (nI vb)), some (.int (nI m)), some (.int (nI hd)), some (.int (C 3 hd)), none, none, none, none, none, none, none, none] [.int o5] (B G a D) := by
    intro o5 D hD ho5
    rcases c4 with ho | ⟨ho, -⟩
    · refine V_istore dL_step_28 (by decide) (by dsimp only [List.set] <;> rfl) rfl ?_
      refine V_aload_n dL_step_30 rfl ?_
      refine V_iconst (v := 3) dL_step_31 (by decide) ?_
      refine V_rq dL_step_32 kL_20 ykX6_total rfl (q_tot3_0 ho hI hD) rfl (Nat.le_of_ble_eq_true rfl) ⟨by decide, by decide, by decide, by decide⟩ (fun D hD => ?_)
      refine V_istore dL_step_35 (by decide) (by dsimp only [List.set] <;> rfl) rfl ?_
      exact k37 o5 (-5) D hD ho5 (Or.inl ⟨ho, rfl⟩)
    · refine V_istore dL_step_28 (by decide) (by dsimp only [List.set] <;> rfl) rfl ?_
      refine V_aload_n dL_step_30 rfl ?_
      refine V_iconst (v := 3) dL_step_31 (by decide) ?_
      refine V_rq dL_step_32 kL_20 ykX6_total rfl (q_tot3_1 ho hI hD) rfl (Nat.le_of_ble_eq_true rfl) ⟨by decide, by decide, by decide, by decide⟩ (fun D hD => ?_)
      refine V_istore dL_step_35 (by decide) (by dsimp only [List.set] <;> rfl) rfl ?_
      exact k37 o5 (nI (tl tc)) D hD ho5 (Or.inr ⟨ho, rfl⟩)
  refine Ct.of (own := RL) (mn := "step") (L0 := [some (.ref a), some (.int (nI vb)), some (.int (nI m)), none, none, none, none, none, none, none, none, none, none]) (by decide +kernel) rfl rfl rfl (Nat.le_of_ble_eq_true rfl) rfl ?_
  refine V_aload_n dL_step_0 rfl ?_
  refine V_iconst (v := 0) dL_step_1 (by decide) ?_
  refine V_rq dL_step_2 kL_20 ykX6_total rfl (q_tot0 hI hD) rfl (Nat.le_of_ble_eq_true rfl) ⟨by decide, by decide, by decide, by decide⟩ (fun D hD => ?_)
  refine V_istore_n dL_step_5 (by decide) (by dsimp only [List.set] <;> rfl) rfl ?_
  refine V_aload_n dL_step_6 rfl ?_
  refine V_iload_n dL_step_7 rfl ?_
  refine V_rq dL_step_8 kL_14 ykX6_cell rfl (q_cl hro.1 hD) rfl (Nat.le_of_ble_eq_true rfl) ⟨by decide, by decide, by decide, by decide⟩ (fun D hD => ?_)
  refine V_istore dL_step_11 (by decide) (by dsimp only [List.set] <;> rfl) rfl ?_
  refine V_iload_n dL_step_13 rfl ?_
  refine V_bipush (v := 30) dL_step_14 (by decide) ?_
  by_cases hm30 : m < 30
  · refine V_icmp_ge dL_step_16 (fun z => absurd z (fun z => absurd ((cle (by repeat (first | with_reducible rfl | with_reducible exact nlit | with_reducible apply nadd | with_reducible apply nmul | with_reducible apply nsub | with_reducible assumption | omega)) (by repeat (first | with_reducible rfl | with_reducible exact nlit | with_reducible apply nadd | with_reducible apply nmul | with_reducible apply nsub | with_reducible assumption | omega)) (by omega) (by omega)).mp z) (by omega))) (fun _ => ?_)
    refine V_aload_n dL_step_19 rfl ?_
    refine V_iload_n dL_step_20 rfl ?_
    refine V_rq dL_step_21 kL_14 ykX6_cell rfl (q_cl hm30 hD) rfl (Nat.le_of_ble_eq_true rfl) ⟨by decide, by decide, by decide, by decide⟩ (fun D hD => ?_)
    refine V_goto dL_step_24 ?_
    exact k28 (C 3 m) D hD (fun _ => rfl)
  · refine V_icmp_ge dL_step_16 (fun _ => ?_) (fun z => absurd ((cle (by repeat (first | with_reducible rfl | with_reducible exact nlit | with_reducible apply nadd | with_reducible apply nmul | with_reducible apply nsub | with_reducible assumption | omega)) (by repeat (first | with_reducible rfl | with_reducible exact nlit | with_reducible apply nadd | with_reducible apply nmul | with_reducible apply nsub | with_reducible assumption | omega)) (by omega) (by omega)).mpr (by omega)) z)
    refine V_iconst (v := 0) dL_step_27 (by decide) ?_
    exact k28 0 D hD (fun z => absurd z hm30)
end LAW
