/-! The law's loop. -/
/-- a block of C as the state's own -/
def shC (C : CT) : CT := fun i => C (77 + i)
theorem shC_bk {C : CT} : BE (bk C 78) (bk (shC C) 1) := fun i _ j _ => by
  show C (77 + (1 + i)) j = C (78 + i) j
  rw [show 77 + (1 + i) = 78 + i by omega]
/-- the snapshot: what is seen of it, and its number of tries -/
def SK (C : CT) (kept : Int64) (tr : Int32) : Prop := C 0 0 = 1 ∧ ∃ hd tc op lc tl ll lt, Inv (bk C 78) hd tc op lc tl ll lt ∧ kept = seenF (shC C) tc op lc tl ll ∧ tr = nI tc
theorem SK_cg {C D : CT} {kept : Int64} {tr : Int32} (h : SK C kept tr) (h0 : D 0 0 = C 0 0) (h78 : BE (bk C 78) (bk D 78)) : SK D kept tr := by
  obtain ⟨a0, hd, tc, op, lc, tl, ll, lt, a1, a2, a3⟩ := h
  refine ⟨by rw [h0, a0], hd, tc, op, lc, tl, ll, lt, Inv_cg h78 a1, ?_, a3⟩
  rw [a2]
  exact (seenF_cg ((shC_bk.sy.tr h78).tr shC_bk) (Inv_cg shC_bk a1)).symm
theorem BE_78 {C D : CT} (h : ∀ i, 78 ≤ i → i < 93 → D i = C i) : BE (bk C 78) (bk D 78) := fun i hi j _ => by
  show D (78 + i) j = C (78 + i) j
  rw [h _ (by omega) (by omega)]
section LAWW
variable {G : GT} {l : Launch} {mn : String} {sz k n a b L st hd tc op lc : Nat} {tl ll lt : Nat → Nat} {xs : Nat → Int32} {C D : CT}
/-- behind an iteration: the loop's head -/
abbrev LH (G : GT) (l : Launch) (mn : String) (sz k n a b L : Nat) (xs : Nat → Int32) (i : Nat) : Prop := ∀ (st hd tc op lc : Nat) (tl ll lt : Nat → Nat) (C D : CT) (kept : Int64) (tr : Int32) (x7 x8 x9 x10 x11 x12 x13 x14 x15 : Option Value), JW C st → Inv (bk C 1) hd tc op lc tl ll lt → SK C kept tr → SC C D → V G l RL mn cL_law 16 ret room_1 (EL b L xs) QL sz k n 77 [some (.ref b), some (.ref a), some (.int 1), some (.long kept), none, some (.int tr), some (.int (nI i)), x7, x8, x9, x10, x11, x12, x13, x14, x15] [] (B G a D)
set_option maxHeartbeats 4000000 in
theorem lw_281 {i X : Nat} {kept was : Int64} {tr v10 v11 v12 : Int32} (hi : i < 70) (hk : k ≤ 600000) (hn : n ≤ 7302250) (next : LH G l mn sz k n a b L xs (i + 1)) (hJ : JW C st) (hI : Inv (bk C 1) hd tc op lc tl ll lt) (hS : SK C kept tr) (hD : SC C D) (x13 x14 x15 : Option Value) : V G l RL mn cL_law 16 ret room_1 (EL b L xs) QL sz k n 281 [some (.ref b), some (.ref a), some (.int 1), some (.long kept), none, some (.int tr), some (.int (nI i)), some (.int (nI X)), some (.long was), none, some (.int v10), some (.int v11), some (.int v12), x13, x14, x15] [] (B G a D) := by
  have e14 : nI i - nI i / 14 * 14 = nI (i % 14) := by
    rw [show (14 : Int32) = nI 14 from rfl, pk_rem (by omega) (by decide) (by decide)]
  have l14 : i % 14 < 14 := Nat.mod_lt _ (by decide)
  refine V_iload_n dL_law_281 rfl ?_
  refine V_if_eq dL_law_282 (fun z => absurd z (by decide)) (fun _ => ?_)
  refine V_iload dL_law_285 rfl ?_
  refine V_bipush (v := 14) dL_law_287 (by decide) ?_
  refine V_irem dL_law_289 (by decide) ?_
  refine V_toe e14 ?_
  refine V_bipush (v := 13) dL_law_290 (by decide) ?_
  by_cases h13 : i % 14 = 13
  · refine V_icmp_ne dL_law_292 (fun z => absurd z (fun z => z (by rw [h13]; rfl))) (fun _ => ?_)
    refine V_aload_n dL_law_295 rfl ?_
    refine V_callS dL_law_296 kL_91 ykL_seen (tL_seen hI hD) rfl (Nat.le_of_ble_eq_true rfl) ⟨by decide, by decide, hk, hn⟩ (fun r h' q => ?_)
    obtain ⟨D, rfl, rfl, hD⟩ := q
    refine V_lstore dL_law_299 (by decide) (by dsimp only [List.set] <;> rfl) rfl ?_
    refine V_aload_n dL_law_301 rfl ?_
    refine V_iconst (v := 2) dL_law_302 (by decide) ?_
    refine V_rq dL_law_303 kL_20 ykX6_total rfl (q_tot2 hI hD) rfl (Nat.le_of_ble_eq_true rfl) ⟨by decide, by decide, hk, hn⟩ (fun D hD => ?_)
    obtain ⟨h0, hd', tc', op', lc', tl', ll', lt', s1, s2, s3⟩ := id hS
    have e81 : C 81 0 = nI tc' := s1.2.1.1
    refine V_istore dL_law_306 (by decide) (by dsimp only [List.set] <;> rfl) rfl ?_
    refine V_aload_n dL_law_308 rfl ?_
    refine V_rm dL_law_309 kL_109 ykX6_restore rfl (m_restore h0 hJ hI hD) rfl (Nat.le_of_ble_eq_true rfl) ⟨by decide, by decide, hk, hn⟩ (fun D hP => ?_)
    refine V_iload dL_law_312 rfl ?_
    refine V_toe s3 ?_
    refine V_icmp_ne dL_law_314 (fun z => absurd z (fun z => z e81)) (fun _ => ?_)
    obtain ⟨P1, P2⟩ := hP
    obtain ⟨E, hE⟩ : ∃ E, E = D := ⟨_, rfl⟩
    rw [← hE] at P1 P2
    rw [← hE]
    have hJ1 : JW E (svN st) := JW_push hJ ⟨_, _, _, _, _, _, _, hI⟩ P1
    have hI1 : Inv (bk E 1) hd' tc' op' lc' tl' ll' lt' := Inv_cg P2 s1
    have hD : SC E E := SC.rf
    have ek : seenF E tc' op' lc' tl' ll' = kept := by
      rw [s2]
      exact seenF_cg (shC_bk.sy.tr P2) (Inv_cg shC_bk s1)
    refine V_aload_n dL_law_317 rfl ?_
    refine V_callS dL_law_318 kL_91 ykL_seen (tL_seen hI1 hD) rfl (Nat.le_of_ble_eq_true rfl) ⟨by decide, by decide, hk, hn⟩ (fun r h' q => ?_)
    obtain ⟨D, rfl, rfl, hD⟩ := q
    refine V_lload_n dL_law_321 rfl ?_
    rw [ek]
    refine V_lcmp dL_law_322 ?_
    refine V_toe cmp_self ?_
    refine V_if_ne dL_law_323 (fun z => absurd z (fun z => z rfl)) (fun _ => ?_)
    have hsv := svN_le hJ.1
    obtain ⟨m, hm⟩ : ∃ m, svN st = m + 1 := ⟨svN st - 1, by omega⟩
    refine V_aload_n dL_law_326 rfl ?_
    refine V_rm dL_law_327 kL_106 ykX6_undo rfl (m_undo hm hJ1 hD) rfl (Nat.le_of_ble_eq_true rfl) ⟨by decide, by decide, hk, hn⟩ (fun D hP => ?_)
    obtain ⟨hJ2, Q2, Q3, Q4⟩ := hP
    obtain ⟨F, hF⟩ : ∃ F, F = D := ⟨_, rfl⟩
    rw [← hF] at hJ2 Q2 Q3 Q4
    rw [← hF]
    have hb : BE (bk C 1) (bk F 1) := by
      have := P1.2.2.1
      rw [hm] at this
      exact this.tr Q2
    have hI2 : Inv (bk F 1) hd tc op lc tl ll lt := Inv_cg hb hI
    have hD : SC F F := SC.rf
    have ek2 : seenF F tc op lc tl ll = seenF C tc op lc tl ll := seenF_cg hb hI
    refine V_if_lt dL_law_330 (fun z => absurd z (fun z => absurd ((clt (by repeat (first | with_reducible rfl | with_reducible exact nlit | with_reducible apply nadd | with_reducible apply nmul | with_reducible apply nsub | with_reducible assumption | omega)) (by repeat (first | with_reducible rfl | with_reducible exact nlit | with_reducible apply nadd | with_reducible apply nmul | with_reducible apply nsub | with_reducible assumption | omega)) (by omega) (by omega)).mp z) (by omega))) (fun _ => ?_)
    refine V_aload_n dL_law_333 rfl ?_
    refine V_callS dL_law_334 kL_91 ykL_seen (tL_seen hI2 hD) rfl (Nat.le_of_ble_eq_true rfl) ⟨by decide, by decide, hk, hn⟩ (fun r h' q => ?_)
    obtain ⟨D, rfl, rfl, hD⟩ := q
    refine V_lload dL_law_337 rfl ?_
    rw [ek2]
    refine V_lcmp dL_law_339 ?_
    refine V_toe cmp_self ?_
    refine V_if_ne dL_law_340 (fun z => absurd z (fun z => z rfl)) (fun _ => ?_)
    refine V_aload_n dL_law_343 rfl ?_
    refine V_rm dL_law_344 kL_115 ykX6_keep rfl (m_keep hJ2 hI2 hD) rfl (Nat.le_of_ble_eq_true rfl) ⟨by decide, by decide, hk, hn⟩ (fun D hP => ?_)
    refine V_iload dL_law_347 rfl ?_
    refine V_icmp_ne dL_law_349 (fun z => absurd z (fun z => z rfl)) (fun _ => ?_)
    obtain ⟨hJ3, R1, R2, R3⟩ := hP
    refine V_iconst (v := 1) dL_law_352 (by decide) ?_
    refine V_goto dL_law_353 ?_
    refine V_istore_n dL_law_357 (by decide) (by dsimp only [List.set] <;> rfl) rfl ?_
    refine V_lload dL_law_358 rfl ?_
    refine V_lstore_n dL_law_360 (by decide) (by dsimp only [List.set] <;> rfl) rfl ?_
    refine V_iload dL_law_361 rfl ?_
    refine V_istore dL_law_363 (by decide) (by dsimp only [List.set] <;> rfl) rfl ?_
    refine V_iinc dL_law_365 rfl (ninc _) (by decide) (by dsimp only [List.set] <;> rfl) ?_
    refine V_goto dL_law_368 ?_
    refine next m hd tc op lc tl ll lt D D _ _ _ _ _ _ _ _ _ _ _ hJ3 (Inv_cg R1 hI2) ⟨R3, hd, tc, op, lc, tl, ll, lt, Inv_cg R2 hI2, ?_, rfl⟩ SC.rf
    rw [← ek2]
    exact (seenF_cg (R2.tr shC_bk) hI2).symm
  · refine V_icmp_ne dL_law_292 (fun _ => ?_) (fun z => absurd z ((fun z => h13 ((neq (b := 13) (by omega) (by decide)).mp z))))
    refine V_iinc dL_law_365 rfl (ninc _) (by decide) (by dsimp only [List.set] <;> rfl) ?_
    refine V_goto dL_law_368 ?_
    exact next st hd tc op lc tl ll lt C D kept tr _ _ _ _ _ _ _ _ _ hJ hI hS hD
set_option maxHeartbeats 4000000 in
/-- behind act -/
theorem lw_177 {i X st' hd' tc' op' lc' : Nat} {tl' ll' lt' : Nat → Nat} {F : CT} {kept : Int64} {tr t v12 : Int32} (hi : i < 70) (hX : X < 2147483648) (hk : k ≤ 600000) (hn : n ≤ 7302250) (next : LH G l mn sz k n a b L xs (i + 1)) (hst : st ≤ 4) (hI : Inv (bk C 1) hd tc op lc tl ll lt) (hJ' : JW F st') (hI' : Inv (bk F 1) hd' tc' op' lc' tl' ll' lt') (hS' : SK F kept tr) (ht : t.toInt < 0 ∨ (0 ≤ t.toInt ∧ st' = svN st ∧ BE (bk C 1) (bk F (hB F (svN st - 1))))) (hD : SC F D) (x13 x14 x15 : Option Value) : V G l RL mn cL_law 16 ret room_1 (EL b L xs) QL sz k n 177 [some (.ref b), some (.ref a), some (.int 1), some (.long kept), none, some (.int tr), some (.int (nI i)), some (.int (nI X)), some (.long (seenF C tc op lc tl ll)), none, some (.int (nI st)), some (.int t), some (.int v12), x13, x14, x15] [] (B G a D) := by
  have e3 : nI i - nI i / 3 * 3 = nI (i % 3) := by
    rw [show (3 : Int32) = nI 3 from rfl, pk_rem (by omega) (by decide) (by decide)]
  have e8 : nI i - nI i / 8 * 8 = nI (i % 8) := by
    rw [show (8 : Int32) = nI 8 from rfl, pk_rem (by omega) (by decide) (by decide)]
  have d7 : nI X / 7 = nI (X / 7) := by
    rw [show (7 : Int32) = nI 7 from rfl, pk_div hX (by decide) (by decide)]
  have l7 : X / 7 < 2147483648 := Nat.lt_of_le_of_lt (Nat.div_le_self _ _) hX
  have l17 : X / 17 < 2147483648 := Nat.lt_of_le_of_lt (Nat.div_le_self _ _) hX
  have d17 : nI X / 17 = nI (X / 17) := by
    rw [show (17 : Int32) = nI 17 from rfl, pk_div hX (by decide) (by decide)]
  have e5 : nI (X / 17) - nI (X / 17) / 5 * 5 = nI (X / 17 % 5) := by
    rw [show (5 : Int32) = nI 5 from rfl, pk_rem l17 (by decide) (by decide)]
  have m3 : i % 3 < 3 := Nat.mod_lt _ (by decide)
  have m8 : i % 8 < 8 := Nat.mod_lt _ (by decide)
  have m5 : X / 17 % 5 < 5 := Nat.mod_lt _ (by decide)
  have k221 : ∀ (D : CT), SC F D → V G l RL mn cL_law 16 ret room_1 (EL b L xs) QL sz k n 221 [some (.ref b), some (.ref a), some (.int 1), some (.long kept), none, some (.int tr), some (.int (nI i)), some (.int (nI X)), some (.long (seenF C tc op lc tl ll)), none, some (.int (nI st)), some (.int t), some (.int v12), x13, x14, x15] [] (B G a D) := by
    intro D hD
    refine V_iconst (v := 1) dL_law_221 (by decide) ?_
    refine V_goto dL_law_222 ?_
    refine V_istore_n dL_law_226 (by decide) (by dsimp only [List.set] <;> rfl) rfl ?_
    refine V_iload_n dL_law_227 rfl ?_
    refine V_if_eq dL_law_228 (fun z => absurd z (by decide)) (fun _ => ?_)
    rcases ht with ht | ⟨ht, hst', hb⟩
    · refine V_iload dL_law_231 rfl ?_
      refine V_if_lt dL_law_233 (fun _ => ?_) (fun z => absurd (by rw [i_lt]; exact ht) z)
      exact lw_281 hi hk hn next hJ' hI' hS' hD x13 x14 x15
    · have ht0 : ¬ t < 0 := fun z => by
        rw [i_lt] at z
        have z0 : (0 : Int32).toInt = 0 := rfl
        omega
      refine V_iload dL_law_231 rfl ?_
      refine V_if_lt dL_law_233 (fun z => absurd z ht0) (fun _ => ?_)
      refine V_iload dL_law_236 rfl ?_
      refine V_bipush (v := 17) dL_law_238 (by decide) ?_
      refine V_idiv dL_law_240 (by decide) ?_
      refine V_toe d17 ?_
      refine V_iconst (v := 5) dL_law_241 (by decide) ?_
      refine V_irem dL_law_242 (by decide) ?_
      refine V_toe e5 ?_
      by_cases h5 : X / 17 % 5 = 0
      · have hsv := svN_le hst
        obtain ⟨m, hm⟩ : ∃ m, st' = m + 1 := ⟨st' - 1, by omega⟩
        refine V_if_ne dL_law_243 (fun z => absurd z (fun z => z (by rw [h5]; rfl))) (fun _ => ?_)
        refine V_aload_n dL_law_246 rfl ?_
        refine V_rm dL_law_247 kL_106 ykX6_undo rfl (m_undo hm hJ' hD) rfl (Nat.le_of_ble_eq_true rfl) ⟨by decide, by decide, hk, hn⟩ (fun D hP => ?_)
        obtain ⟨hJ2, Q2, Q3, Q4⟩ := hP
        obtain ⟨E, hE⟩ : ∃ E, E = D := ⟨_, rfl⟩
        rw [← hE] at hJ2 Q2 Q3 Q4
        rw [← hE]
        have hb2 : BE (bk C 1) (bk E 1) := by
          rw [← hst', hm] at hb
          exact hb.tr Q2
        have hI2 : Inv (bk E 1) hd tc op lc tl ll lt := Inv_cg hb2 hI
        have hS2 : SK E kept tr := SK_cg hS' Q3 (BE_78 Q4)
        have ek2 : seenF E tc op lc tl ll = seenF C tc op lc tl ll := seenF_cg hb2 hI
        have hD : SC E E := SC.rf
        have k265 : ∀ (D : CT), SC E D → V G l RL mn cL_law 16 ret room_1 (EL b L xs) QL sz k n 265 [some (.ref b), some (.ref a), some (.int 1), some (.long kept), none, some (.int tr), some (.int (nI i)), some (.int (nI X)), some (.long (seenF C tc op lc tl ll)), none, some (.int (nI st)), some (.int t), some (.int v12), x13, x14, x15] [] (B G a D) := by
          intro D hD
          refine V_aload_n dL_law_265 rfl ?_
          refine V_callS dL_law_266 kL_91 ykL_seen (tL_seen hI2 hD) rfl (Nat.le_of_ble_eq_true rfl) ⟨by decide, by decide, hk, hn⟩ (fun r h' q => ?_)
          obtain ⟨D, rfl, rfl, hD⟩ := q
          refine V_lload dL_law_269 rfl ?_
          rw [ek2]
          refine V_lcmp dL_law_271 ?_
          refine V_toe cmp_self ?_
          refine V_if_ne dL_law_272 (fun z => absurd z (fun z => z rfl)) (fun _ => ?_)
          refine V_iconst (v := 1) dL_law_275 (by decide) ?_
          refine V_goto dL_law_276 ?_
          refine V_istore_n dL_law_280 (by decide) (by dsimp only [List.set] <;> rfl) rfl ?_
          exact lw_281 hi hk hn next hJ2 hI2 hS2 hD x13 x14 x15
        by_cases h4 : st = 4
        · have hm3 : m = 3 := by
            unfold svN at hst'
            rw [if_pos h4] at hst'
            omega
          refine V_iload dL_law_250 rfl ?_
          refine V_iconst (v := 4) dL_law_252 (by decide) ?_
          refine V_icmp_ge dL_law_253 (fun _ => ?_) (fun z => absurd ((cle (by repeat (first | with_reducible rfl | with_reducible exact nlit | with_reducible apply nadd | with_reducible apply nmul | with_reducible apply nsub | with_reducible assumption | omega)) (by repeat (first | with_reducible rfl | with_reducible exact nlit | with_reducible apply nadd | with_reducible apply nmul | with_reducible apply nsub | with_reducible assumption | omega)) (by omega) (by omega)).mpr (by omega)) z)
          refine V_iconst (v := 3) dL_law_261 (by decide) ?_
          refine V_icmp_ne dL_law_262 (fun z => absurd z (fun z => z ((ceq (by repeat (first | with_reducible rfl | with_reducible exact nlit | with_reducible apply nadd | with_reducible apply nmul | with_reducible apply nsub | with_reducible assumption | omega)) (by repeat (first | with_reducible rfl | with_reducible exact nlit | with_reducible apply nadd | with_reducible apply nmul | with_reducible apply nsub | with_reducible assumption | omega)) (by omega) (by omega)).mpr (by omega)))) (fun _ => ?_)
          exact k265 E hD
        · have hm3 : m = st := by
            unfold svN at hst'
            rw [if_neg h4] at hst'
            omega
          refine V_iload dL_law_250 rfl ?_
          refine V_iconst (v := 4) dL_law_252 (by decide) ?_
          refine V_icmp_ge dL_law_253 (fun z => absurd z (fun z => absurd ((cle (by repeat (first | with_reducible rfl | with_reducible exact nlit | with_reducible apply nadd | with_reducible apply nmul | with_reducible apply nsub | with_reducible assumption | omega)) (by repeat (first | with_reducible rfl | with_reducible exact nlit | with_reducible apply nadd | with_reducible apply nmul | with_reducible apply nsub | with_reducible assumption | omega)) (by omega) (by omega)).mp z) (by omega))) (fun _ => ?_)
          refine V_iload dL_law_256 rfl ?_
          refine V_goto dL_law_258 ?_
          refine V_icmp_ne dL_law_262 (fun z => absurd z (fun z => z ((ceq (by repeat (first | with_reducible rfl | with_reducible exact nlit | with_reducible apply nadd | with_reducible apply nmul | with_reducible apply nsub | with_reducible assumption | omega)) (by repeat (first | with_reducible rfl | with_reducible exact nlit | with_reducible apply nadd | with_reducible apply nmul | with_reducible apply nsub | with_reducible assumption | omega)) (by omega) (by omega)).mpr (by omega)))) (fun _ => ?_)
          exact k265 E hD
      · refine V_if_ne dL_law_243 (fun _ => ?_) (fun z => absurd z ((fun z => absurd ((ceq (by repeat (first | with_reducible rfl | with_reducible exact nlit | with_reducible apply nadd | with_reducible apply nmul | with_reducible apply nsub | with_reducible assumption | omega)) (by repeat (first | with_reducible rfl | with_reducible exact nlit | with_reducible apply nadd | with_reducible apply nmul | with_reducible apply nsub | with_reducible assumption | omega)) (by omega) (by omega)).mp z) (by omega))))
        exact lw_281 hi hk hn next hJ' hI' hS' hD x13 x14 x15
  have k199 : ∀ (D : CT), SC F D → V G l RL mn cL_law 16 ret room_1 (EL b L xs) QL sz k n 199 [some (.ref b), some (.ref a), some (.int 1), some (.long kept), none, some (.int tr), some (.int (nI i)), some (.int (nI X)), some (.long (seenF C tc op lc tl ll)), none, some (.int (nI st)), some (.int t), some (.int v12), x13, x14, x15] [] (B G a D) := by
    intro D hD
    refine V_iload dL_law_199 rfl ?_
    refine V_bipush (v := 8) dL_law_201 (by decide) ?_
    refine V_irem dL_law_203 (by decide) ?_
    refine V_toe e8 ?_
    refine V_bipush (v := 7) dL_law_204 (by decide) ?_
    by_cases h7 : i % 8 = 7
    · refine V_icmp_ne dL_law_206 (fun z => absurd z (fun z => z (by rw [h7]; rfl))) (fun _ => ?_)
      refine V_aload_n dL_law_209 rfl ?_
      refine V_iload dL_law_210 rfl ?_
      refine V_bipush (v := 7) dL_law_212 (by decide) ?_
      refine V_idiv dL_law_214 (by decide) ?_
      refine V_toe d7 ?_
      refine V_rqS dL_law_215 kL_112 ykL_refuses (tL_refuses l7 hJ' hI' hD) rfl (Nat.le_of_ble_eq_true rfl) ⟨by decide, by decide, hk, hn⟩ (fun D hD => ?_)
      refine V_if_eq dL_law_218 (fun z => absurd z (by decide)) (fun _ => ?_)
      exact k221 D hD
    · refine V_icmp_ne dL_law_206 (fun _ => ?_) (fun z => absurd z ((fun z => h7 ((neq (b := 7) (by omega) (by decide)).mp z))))
      exact k221 D hD
  refine V_iload dL_law_177 rfl ?_
  refine V_iconst (v := 3) dL_law_179 (by decide) ?_
  refine V_irem dL_law_180 (by decide) ?_
  refine V_toe e3 ?_
  refine V_iconst (v := 2) dL_law_181 (by decide) ?_
  by_cases h2 : i % 3 = 2
  · refine V_icmp_ne dL_law_182 (fun z => absurd z (fun z => z (by rw [h2]; rfl))) (fun _ => ?_)
    refine V_aload_n dL_law_185 rfl ?_
    refine V_rqS dL_law_186 kL_125 ykL_areTries (tL_areTries hI' hD) rfl (Nat.le_of_ble_eq_true rfl) ⟨by decide, by decide, hk, hn⟩ (fun D hD => ?_)
    refine V_if_eq dL_law_189 (fun z => absurd z (by decide)) (fun _ => ?_)
    refine V_aload_n dL_law_192 rfl ?_
    refine V_rqS dL_law_193 kL_129 ykL_areLoops (tL_areLoops hI' hD) rfl (Nat.le_of_ble_eq_true rfl) ⟨by decide, by decide, hk, hn⟩ (fun D hD => ?_)
    refine V_if_eq dL_law_196 (fun z => absurd z (by decide)) (fun _ => ?_)
    exact k199 D hD
  · refine V_icmp_ne dL_law_182 (fun _ => ?_) (fun z => absurd z ((fun z => h2 ((neq (b := 2) (by omega) (by decide)).mp z))))
    exact k199 D hD
set_option maxHeartbeats 4000000 in
theorem lw_loop (hL : L ≤ 260) (hk : k ≤ 600000) (hn : n ≤ 7302250) : ∀ (q i : Nat), i + q = 70 → LH G l mn sz k n a b L xs i := by
  intro q
  induction q with
  | zero =>
    intro i hi st hd tc op lc tl ll lt C D kept tr x7 x8 x9 x10 x11 x12 x13 x14 x15 hJ hI hS hD
    refine V_iload dL_law_77 rfl ?_
    refine V_bipush (v := 70) dL_law_79 (by decide) ?_
    refine V_icmp_ge dL_law_81 (fun _ => ?_) (fun z => absurd ((cle (by repeat (first | with_reducible rfl | with_reducible exact nlit | with_reducible apply nadd | with_reducible apply nmul | with_reducible apply nsub | with_reducible assumption | omega)) (by repeat (first | with_reducible rfl | with_reducible exact nlit | with_reducible apply nadd | with_reducible apply nmul | with_reducible apply nsub | with_reducible assumption | omega)) (by omega) (by omega)).mpr (by omega)) z)
    refine V_iload_n dL_law_371 rfl ?_
    exact V_lret dL_law_372 hk hn
  | succ q ih =>
    intro i hi st hd tc op lc tl ll lt C D kept tr x7 x8 x9 x10 x11 x12 x13 x14 x15 hJ hI hS hD
    have hst := hJ.1
    have next : LH G l mn sz k n a b L xs (i + 1) := ih (i + 1) (by omega)
    refine V_iload dL_law_77 rfl ?_
    refine V_bipush (v := 70) dL_law_79 (by decide) ?_
    refine V_icmp_ge dL_law_81 (fun z => absurd z (fun z => absurd ((cle (by repeat (first | with_reducible rfl | with_reducible exact nlit | with_reducible apply nadd | with_reducible apply nmul | with_reducible apply nsub | with_reducible assumption | omega)) (by repeat (first | with_reducible rfl | with_reducible exact nlit | with_reducible apply nadd | with_reducible apply nmul | with_reducible apply nsub | with_reducible assumption | omega)) (by omega) (by omega)).mp z) (by omega))) (fun _ => ?_)
    refine V_iload_n dL_law_84 rfl ?_
    refine V_if_eq dL_law_85 (fun z => absurd z (by decide)) (fun _ => ?_)
    refine V_aload_n dL_law_88 rfl ?_
    refine V_iload dL_law_89 rfl ?_
    refine V_callSX dL_law_91 kL_118 ykL_cell (tL_cell (i := i) hL (by omega)) rfl (Nat.le_of_ble_eq_true rfl) ⟨by decide, by decide, hk, hn⟩ (fun r h' q => ?_)
    obtain ⟨X, hX, rfl, rfl⟩ := q
    refine V_istore dL_law_94 (by decide) (by dsimp only [List.set] <;> rfl) rfl ?_
    refine V_aload_n dL_law_96 rfl ?_
    refine V_callS dL_law_97 kL_91 ykL_seen (tL_seen hI hD) rfl (Nat.le_of_ble_eq_true rfl) ⟨by decide, by decide, hk, hn⟩ (fun r h' q => ?_)
    obtain ⟨D, rfl, rfl, hD⟩ := q
    refine V_lstore dL_law_100 (by decide) (by dsimp only [List.set] <;> rfl) rfl ?_
    refine V_aload_n dL_law_102 rfl ?_
    refine V_bipush (v := 10) dL_law_103 (by decide) ?_
    refine V_rq dL_law_105 kL_20 ykX6_total rfl (q_tot10 hJ hI hD) rfl (Nat.le_of_ble_eq_true rfl) ⟨by decide, by decide, hk, hn⟩ (fun D hD => ?_)
    refine V_istore dL_law_108 (by decide) (by dsimp only [List.set] <;> rfl) rfl ?_
    refine V_aload_n dL_law_110 rfl ?_
    refine V_iload dL_law_111 rfl ?_
    refine V_callS dL_law_113 kL_121 ykL_act (tL_act hX hJ hI hD) rfl (Nat.le_of_ble_eq_true rfl) ⟨by decide, by decide, hk, hn⟩ (fun r h' q => ?_)
    obtain ⟨t, D, rfl, rfl, q⟩ := q
    rcases q with ⟨q1, q2, hD⟩ | ⟨q1, hP, hd', tc', op', lc', tl', ll', lt', hI'⟩
    · have t9 : ¬ t ≤ -9 := fun z => by
        rw [i_le] at z
        have z9 : (-9 : Int32).toInt = -9 := rfl
        omega
      have t0 : ¬ (0 : Int32) ≤ t := fun z => by
        rw [i_le] at z
        have z0 : (0 : Int32).toInt = 0 := rfl
        omega
      refine V_istore dL_law_116 (by decide) (by dsimp only [List.set] <;> rfl) rfl ?_
      refine V_aload_n dL_law_118 rfl ?_
      refine V_bipush (v := 10) dL_law_119 (by decide) ?_
      refine V_rq dL_law_121 kL_20 ykX6_total rfl (q_tot10 hJ hI hD) rfl (Nat.le_of_ble_eq_true rfl) ⟨by decide, by decide, hk, hn⟩ (fun D hD => ?_)
      refine V_istore dL_law_124 (by decide) (by dsimp only [List.set] <;> rfl) rfl ?_
      refine V_iload dL_law_126 rfl ?_
      refine V_bipush (v := (-9)) dL_law_128 (by decide) ?_
      refine V_icmp_le dL_law_130 (fun z => absurd z t9) (fun _ => ?_)
      refine V_iload dL_law_133 rfl ?_
      refine V_if_ge dL_law_135 (fun z => absurd z t0) (fun _ => ?_)
      refine V_iload dL_law_138 rfl ?_
      refine V_iload dL_law_140 rfl ?_
      refine V_icmp_ne dL_law_142 (fun z => absurd z (fun z => z rfl)) (fun _ => ?_)
      refine V_aload_n dL_law_145 rfl ?_
      refine V_callS dL_law_146 kL_91 ykL_seen (tL_seen hI hD) rfl (Nat.le_of_ble_eq_true rfl) ⟨by decide, by decide, hk, hn⟩ (fun r h' q => ?_)
      obtain ⟨D, rfl, rfl, hD⟩ := q
      refine V_lload dL_law_149 rfl ?_
      refine V_lcmp dL_law_151 ?_
      refine V_toe cmp_self ?_
      refine V_if_ne dL_law_152 (fun z => absurd z (fun z => z rfl)) (fun _ => ?_)
      refine V_goto dL_law_155 ?_
      exact lw_177 (by omega) hX hk hn next hst hI hJ hI hS (Or.inl q2) hD x13 x14 x15
    · have t9 : ¬ t ≤ -9 := fun z => by
        rw [i_le] at z
        have z9 : (-9 : Int32).toInt = -9 := rfl
        omega
      have t0 : (0 : Int32) ≤ t := by
        rw [i_le]
        have z0 : (0 : Int32).toInt = 0 := rfl
        omega
      obtain ⟨E, hE⟩ : ∃ E, E = D := ⟨_, rfl⟩
      rw [← hE] at hP hI'
      rw [← hE]
      have hJ' := JW_push hJ ⟨_, _, _, _, _, _, _, hI⟩ hP
      have hS' : SK E kept tr := SK_cg hS hP.2.2.2.2.2.1 (BE_78 hP.2.2.2.2.1)
      have hD : SC E E := SC.rf
      have hR : t.toInt < 0 ∨ (0 ≤ t.toInt ∧ svN st = svN st ∧ BE (bk C 1) (bk E (hB E (svN st - 1)))) := Or.inr ⟨q1, rfl, hP.2.2.1⟩
      refine V_istore dL_law_116 (by decide) (by dsimp only [List.set] <;> rfl) rfl ?_
      refine V_aload_n dL_law_118 rfl ?_
      refine V_bipush (v := 10) dL_law_119 (by decide) ?_
      refine V_rq dL_law_121 kL_20 ykX6_total rfl (q_tot10 hJ' hI' hD) rfl (Nat.le_of_ble_eq_true rfl) ⟨by decide, by decide, hk, hn⟩ (fun D hD => ?_)
      refine V_istore dL_law_124 (by decide) (by dsimp only [List.set] <;> rfl) rfl ?_
      refine V_iload dL_law_126 rfl ?_
      refine V_bipush (v := (-9)) dL_law_128 (by decide) ?_
      refine V_icmp_le dL_law_130 (fun z => absurd z t9) (fun _ => ?_)
      refine V_iload dL_law_133 rfl ?_
      refine V_if_ge dL_law_135 (fun _ => ?_) (fun z => absurd t0 z)
      by_cases h4 : st = 4
      · have e4 : svN st = 4 := by unfold svN; rw [if_pos h4]
        refine V_iload dL_law_158 rfl ?_
        refine V_iload dL_law_160 rfl ?_
        refine V_iconst (v := 4) dL_law_162 (by decide) ?_
        refine V_icmp_ge dL_law_163 (fun _ => ?_) (fun z => absurd ((cle (by repeat (first | with_reducible rfl | with_reducible exact nlit | with_reducible apply nadd | with_reducible apply nmul | with_reducible apply nsub | with_reducible assumption | omega)) (by repeat (first | with_reducible rfl | with_reducible exact nlit | with_reducible apply nadd | with_reducible apply nmul | with_reducible apply nsub | with_reducible assumption | omega)) (by omega) (by omega)).mpr (by omega)) z)
        refine V_iconst (v := 4) dL_law_173 (by decide) ?_
        refine V_icmp_ne dL_law_174 (fun z => absurd z (fun z => z (by rw [e4]; rfl))) (fun _ => ?_)
        exact lw_177 (by omega) hX hk hn next hst hI hJ' hI' hS' hR hD x13 x14 x15
      · have e4 : svN st = st + 1 := by unfold svN; rw [if_neg h4]
        refine V_iload dL_law_158 rfl ?_
        refine V_iload dL_law_160 rfl ?_
        refine V_iconst (v := 4) dL_law_162 (by decide) ?_
        refine V_icmp_ge dL_law_163 (fun z => absurd z (fun z => absurd ((cle (by repeat (first | with_reducible rfl | with_reducible exact nlit | with_reducible apply nadd | with_reducible apply nmul | with_reducible apply nsub | with_reducible assumption | omega)) (by repeat (first | with_reducible rfl | with_reducible exact nlit | with_reducible apply nadd | with_reducible apply nmul | with_reducible apply nsub | with_reducible assumption | omega)) (by omega) (by omega)).mp z) (by omega))) (fun _ => ?_)
        refine V_iload dL_law_166 rfl ?_
        refine V_iconst (v := 1) dL_law_168 (by decide) ?_
        refine V_iadd dL_law_169 ?_
        refine V_goto dL_law_170 ?_
        refine V_icmp_ne dL_law_174 (fun z => absurd z (fun z => z (by rw [e4]; exact (ninc st).symm))) (fun _ => ?_)
        exact lw_177 (by omega) hX hk hn next hst hI hJ' hI' hS' hR hD x13 x14 x15
end LAWW
