/-! how far the law's loop goes -/
theorem lw_cmp {i L : Nat} (hi : i < 10000) (hL : L < 10000) : nI L - 4 < nI i ↔ L < i + 4 := by
  rw [i_lt, nI_toInt (by omega)]
  have e : (nI L - 4).toInt = (L : Int) - 4 := by
    rw [Int32.toInt_sub, nI_toInt (by omega)]
    have e4 : (4 : Int32).toInt = 4 := rfl
    rw [e4]
    exact Int.bmod_eq_of_le (by omega) (by omega)
  omega
/-! The law: its loop, call by call. -/
section LAWW
variable {G : GT} {l : Launch} {mn : String} {sz k n a b L i : Nat} {xs : Nat → Int32} {C : CT}
set_option maxHeartbeats 2000000 in
theorem lw_step (hJ : JE C) (hi : i + 4 ≤ L) (hL : L < 2147483648) (hk : k ≤ 600000) (hn : n ≤ 7302250) (tail : ∀ C2, JE C2 → V G l R_law mn cL_law 4 ret room_1 (EL b L xs) QL sz k n 832 [some (.ref b), some (.ref a), some (.ref (a + 105)), some (.int (nI i))] [] (B G a C2)) : V G l R_law mn cL_law 4 ret room_1 (EL b L xs) QL sz k n 152 [some (.ref b), some (.ref a), some (.ref (a + 105)), some (.int (nI i))] [] (B G a C) := by
  obtain ⟨v, hc⟩ := op_step (G := G) (l := l) (sz := sz + k) (a := a) (xs (i + 1)) (xs (i + 2)) hJ
  refine V_aload_n dL_law_152 rfl ?_
  refine V_aload_n dL_law_153 rfl ?_
  refine V_iload_n dL_law_154 rfl ?_
  refine V_iconst (v := 1) dL_law_155 (by decide) ?_
  refine V_iadd dL_law_156 ?_
  refine V_sld (m := i + 1) dL_law_157 (nadd rfl (nlit (n := 1))) (by omega) hL rfl ?_
  refine V_aload_n dL_law_158 rfl ?_
  refine V_iload_n dL_law_159 rfl ?_
  refine V_iconst (v := 2) dL_law_160 (by decide) ?_
  refine V_iadd dL_law_161 ?_
  refine V_sld (m := i + 2) dL_law_162 (nadd rfl (nlit (n := 2))) (by omega) hL rfl ?_
  refine V_callV dL_law_163 kL_13 ykX6_step (B_at (j := 0) (by decide) rfl) rfl hc rfl (Nat.le_of_ble_eq_true rfl) ⟨by decide, by decide, hk, hn⟩ (fun r h' q => ?_)
  obtain ⟨C1, rfl, rfl, hm⟩ := q
  show V G l R_law mn cL_law 4 ret room_1 (EL b L xs) QL sz k n 166 [some (.ref b), some (.ref a), some (.ref (a + 105)), some (.int (nI i))] [.int v] (B G a C1)
  refine V_aload_n dL_law_166 rfl ?_
  refine V_aload_n dL_law_167 rfl ?_
  refine V_iload_n dL_law_168 rfl ?_
  refine V_iconst (v := 1) dL_law_169 (by decide) ?_
  refine V_iadd dL_law_170 ?_
  refine V_sld (m := i + 1) dL_law_171 (nadd rfl (nlit (n := 1))) (by omega) hL rfl ?_
  refine V_aload_n dL_law_172 rfl ?_
  refine V_iload_n dL_law_173 rfl ?_
  refine V_iconst (v := 2) dL_law_174 (by decide) ?_
  refine V_iadd dL_law_175 ?_
  refine V_sld (m := i + 2) dL_law_176 (nadd rfl (nlit (n := 2))) (by omega) hL rfl ?_
  refine V_callV dL_law_177 kL_17 ykX7_step (B_at (j := 105) (by decide) rfl) rfl hm rfl (Nat.le_of_ble_eq_true rfl) ⟨by decide, by decide, hk, hn⟩ (fun r h' q => ?_)
  obtain ⟨C2, rfl, rfl, hJ2⟩ := q
  show V G l R_law mn cL_law 4 ret room_1 (EL b L xs) QL sz k n 180 [some (.ref b), some (.ref a), some (.ref (a + 105)), some (.int (nI i))] [.int v, .int v] (B G a C2)
  exact V_icmp_eq dL_law_180 (fun _ => tail C2 hJ2) (fun z => absurd rfl z)
set_option maxHeartbeats 2000000 in
theorem lw_record (hJ : JE C) (hi : i + 4 ≤ L) (hL : L < 2147483648) (hk : k ≤ 600000) (hn : n ≤ 7302250) (tail : ∀ C2, JE C2 → V G l R_law mn cL_law 4 ret room_1 (EL b L xs) QL sz k n 832 [some (.ref b), some (.ref a), some (.ref (a + 105)), some (.int (nI i))] [] (B G a C2)) : V G l R_law mn cL_law 4 ret room_1 (EL b L xs) QL sz k n 185 [some (.ref b), some (.ref a), some (.ref (a + 105)), some (.int (nI i))] [] (B G a C) := by
  obtain ⟨v, hc⟩ := op_record (G := G) (l := l) (sz := sz + k) (a := a)  hJ
  refine V_aload_n dL_law_185 rfl ?_
  refine V_callV dL_law_186 kL_18 ykX6_record (B_at (j := 0) (by decide) rfl) rfl hc rfl (Nat.le_of_ble_eq_true rfl) ⟨by decide, by decide, hk, hn⟩ (fun r h' q => ?_)
  obtain ⟨C1, rfl, rfl, hm⟩ := q
  show V G l R_law mn cL_law 4 ret room_1 (EL b L xs) QL sz k n 189 [some (.ref b), some (.ref a), some (.ref (a + 105)), some (.int (nI i))] [.int v] (B G a C1)
  refine V_aload_n dL_law_189 rfl ?_
  refine V_callV dL_law_190 kL_22 ykX7_record (B_at (j := 105) (by decide) rfl) rfl hm rfl (Nat.le_of_ble_eq_true rfl) ⟨by decide, by decide, hk, hn⟩ (fun r h' q => ?_)
  obtain ⟨C2, rfl, rfl, hJ2⟩ := q
  show V G l R_law mn cL_law 4 ret room_1 (EL b L xs) QL sz k n 193 [some (.ref b), some (.ref a), some (.ref (a + 105)), some (.int (nI i))] [.int v, .int v] (B G a C2)
  exact V_icmp_eq dL_law_193 (fun _ => tail C2 hJ2) (fun z => absurd rfl z)
set_option maxHeartbeats 2000000 in
theorem lw_end (hJ : JE C) (hi : i + 4 ≤ L) (hL : L < 2147483648) (hk : k ≤ 600000) (hn : n ≤ 7302250) (tail : ∀ C2, JE C2 → V G l R_law mn cL_law 4 ret room_1 (EL b L xs) QL sz k n 832 [some (.ref b), some (.ref a), some (.ref (a + 105)), some (.int (nI i))] [] (B G a C2)) : V G l R_law mn cL_law 4 ret room_1 (EL b L xs) QL sz k n 198 [some (.ref b), some (.ref a), some (.ref (a + 105)), some (.int (nI i))] [] (B G a C) := by
  obtain ⟨v, hc⟩ := op_end (G := G) (l := l) (sz := sz + k) (a := a)  hJ
  refine V_aload_n dL_law_198 rfl ?_
  refine V_callV dL_law_199 kL_23 ykX6_end (B_at (j := 0) (by decide) rfl) rfl hc rfl (Nat.le_of_ble_eq_true rfl) ⟨by decide, by decide, hk, hn⟩ (fun r h' q => ?_)
  obtain ⟨C1, rfl, rfl, hm⟩ := q
  show V G l R_law mn cL_law 4 ret room_1 (EL b L xs) QL sz k n 202 [some (.ref b), some (.ref a), some (.ref (a + 105)), some (.int (nI i))] [.int v] (B G a C1)
  refine V_aload_n dL_law_202 rfl ?_
  refine V_callV dL_law_203 kL_26 ykX7_end (B_at (j := 105) (by decide) rfl) rfl hm rfl (Nat.le_of_ble_eq_true rfl) ⟨by decide, by decide, hk, hn⟩ (fun r h' q => ?_)
  obtain ⟨C2, rfl, rfl, hJ2⟩ := q
  show V G l R_law mn cL_law 4 ret room_1 (EL b L xs) QL sz k n 206 [some (.ref b), some (.ref a), some (.ref (a + 105)), some (.int (nI i))] [.int v, .int v] (B G a C2)
  exact V_icmp_eq dL_law_206 (fun _ => tail C2 hJ2) (fun z => absurd rfl z)
set_option maxHeartbeats 2000000 in
theorem lw_dropTry (hJ : JE C) (hi : i + 4 ≤ L) (hL : L < 2147483648) (hk : k ≤ 600000) (hn : n ≤ 7302250) (tail : ∀ C2, JE C2 → V G l R_law mn cL_law 4 ret room_1 (EL b L xs) QL sz k n 832 [some (.ref b), some (.ref a), some (.ref (a + 105)), some (.int (nI i))] [] (B G a C2)) : V G l R_law mn cL_law 4 ret room_1 (EL b L xs) QL sz k n 211 [some (.ref b), some (.ref a), some (.ref (a + 105)), some (.int (nI i))] [] (B G a C) := by
  obtain ⟨v, hc⟩ := op_dropTry (G := G) (l := l) (sz := sz + k) (a := a) (xs (i + 1)) hJ
  refine V_aload_n dL_law_211 rfl ?_
  refine V_aload_n dL_law_212 rfl ?_
  refine V_iload_n dL_law_213 rfl ?_
  refine V_iconst (v := 1) dL_law_214 (by decide) ?_
  refine V_iadd dL_law_215 ?_
  refine V_sld (m := i + 1) dL_law_216 (nadd rfl (nlit (n := 1))) (by omega) hL rfl ?_
  refine V_callV dL_law_217 kL_27 ykX6_dropTry (B_at (j := 0) (by decide) rfl) rfl hc rfl (Nat.le_of_ble_eq_true rfl) ⟨by decide, by decide, hk, hn⟩ (fun r h' q => ?_)
  obtain ⟨C1, rfl, rfl, hm⟩ := q
  show V G l R_law mn cL_law 4 ret room_1 (EL b L xs) QL sz k n 220 [some (.ref b), some (.ref a), some (.ref (a + 105)), some (.int (nI i))] [.int v] (B G a C1)
  refine V_aload_n dL_law_220 rfl ?_
  refine V_aload_n dL_law_221 rfl ?_
  refine V_iload_n dL_law_222 rfl ?_
  refine V_iconst (v := 1) dL_law_223 (by decide) ?_
  refine V_iadd dL_law_224 ?_
  refine V_sld (m := i + 1) dL_law_225 (nadd rfl (nlit (n := 1))) (by omega) hL rfl ?_
  refine V_callV dL_law_226 kL_31 ykX7_dropTry (B_at (j := 105) (by decide) rfl) rfl hm rfl (Nat.le_of_ble_eq_true rfl) ⟨by decide, by decide, hk, hn⟩ (fun r h' q => ?_)
  obtain ⟨C2, rfl, rfl, hJ2⟩ := q
  show V G l R_law mn cL_law 4 ret room_1 (EL b L xs) QL sz k n 229 [some (.ref b), some (.ref a), some (.ref (a + 105)), some (.int (nI i))] [.int v, .int v] (B G a C2)
  exact V_icmp_eq dL_law_229 (fun _ => tail C2 hJ2) (fun z => absurd rfl z)
set_option maxHeartbeats 2000000 in
theorem lw_generalise (hJ : JE C) (hi : i + 4 ≤ L) (hL : L < 2147483648) (hk : k ≤ 600000) (hn : n ≤ 7302250) (tail : ∀ C2, JE C2 → V G l R_law mn cL_law 4 ret room_1 (EL b L xs) QL sz k n 832 [some (.ref b), some (.ref a), some (.ref (a + 105)), some (.int (nI i))] [] (B G a C2)) : V G l R_law mn cL_law 4 ret room_1 (EL b L xs) QL sz k n 234 [some (.ref b), some (.ref a), some (.ref (a + 105)), some (.int (nI i))] [] (B G a C) := by
  obtain ⟨v, hc⟩ := op_generalise (G := G) (l := l) (sz := sz + k) (a := a) (xs (i + 1)) (xs (i + 2)) hJ
  refine V_aload_n dL_law_234 rfl ?_
  refine V_aload_n dL_law_235 rfl ?_
  refine V_iload_n dL_law_236 rfl ?_
  refine V_iconst (v := 1) dL_law_237 (by decide) ?_
  refine V_iadd dL_law_238 ?_
  refine V_sld (m := i + 1) dL_law_239 (nadd rfl (nlit (n := 1))) (by omega) hL rfl ?_
  refine V_aload_n dL_law_240 rfl ?_
  refine V_iload_n dL_law_241 rfl ?_
  refine V_iconst (v := 2) dL_law_242 (by decide) ?_
  refine V_iadd dL_law_243 ?_
  refine V_sld (m := i + 2) dL_law_244 (nadd rfl (nlit (n := 2))) (by omega) hL rfl ?_
  refine V_callV dL_law_245 kL_32 ykX6_generalise (B_at (j := 0) (by decide) rfl) rfl hc rfl (Nat.le_of_ble_eq_true rfl) ⟨by decide, by decide, hk, hn⟩ (fun r h' q => ?_)
  obtain ⟨C1, rfl, rfl, hm⟩ := q
  show V G l R_law mn cL_law 4 ret room_1 (EL b L xs) QL sz k n 248 [some (.ref b), some (.ref a), some (.ref (a + 105)), some (.int (nI i))] [.int v] (B G a C1)
  refine V_aload_n dL_law_248 rfl ?_
  refine V_aload_n dL_law_249 rfl ?_
  refine V_iload_n dL_law_250 rfl ?_
  refine V_iconst (v := 1) dL_law_251 (by decide) ?_
  refine V_iadd dL_law_252 ?_
  refine V_sld (m := i + 1) dL_law_253 (nadd rfl (nlit (n := 1))) (by omega) hL rfl ?_
  refine V_aload_n dL_law_254 rfl ?_
  refine V_iload_n dL_law_255 rfl ?_
  refine V_iconst (v := 2) dL_law_256 (by decide) ?_
  refine V_iadd dL_law_257 ?_
  refine V_sld (m := i + 2) dL_law_258 (nadd rfl (nlit (n := 2))) (by omega) hL rfl ?_
  refine V_callV dL_law_259 kL_35 ykX7_generalise (B_at (j := 105) (by decide) rfl) rfl hm rfl (Nat.le_of_ble_eq_true rfl) ⟨by decide, by decide, hk, hn⟩ (fun r h' q => ?_)
  obtain ⟨C2, rfl, rfl, hJ2⟩ := q
  show V G l R_law mn cL_law 4 ret room_1 (EL b L xs) QL sz k n 262 [some (.ref b), some (.ref a), some (.ref (a + 105)), some (.int (nI i))] [.int v, .int v] (B G a C2)
  exact V_icmp_eq dL_law_262 (fun _ => tail C2 hJ2) (fun z => absurd rfl z)
set_option maxHeartbeats 2000000 in
theorem lw_fold (hJ : JE C) (hi : i + 4 ≤ L) (hL : L < 2147483648) (hk : k ≤ 600000) (hn : n ≤ 7302250) (tail : ∀ C2, JE C2 → V G l R_law mn cL_law 4 ret room_1 (EL b L xs) QL sz k n 832 [some (.ref b), some (.ref a), some (.ref (a + 105)), some (.int (nI i))] [] (B G a C2)) : V G l R_law mn cL_law 4 ret room_1 (EL b L xs) QL sz k n 267 [some (.ref b), some (.ref a), some (.ref (a + 105)), some (.int (nI i))] [] (B G a C) := by
  obtain ⟨v, hc⟩ := op_fold (G := G) (l := l) (sz := sz + k) (a := a) (xs (i + 1)) hJ
  refine V_aload_n dL_law_267 rfl ?_
  refine V_aload_n dL_law_268 rfl ?_
  refine V_iload_n dL_law_269 rfl ?_
  refine V_iconst (v := 1) dL_law_270 (by decide) ?_
  refine V_iadd dL_law_271 ?_
  refine V_sld (m := i + 1) dL_law_272 (nadd rfl (nlit (n := 1))) (by omega) hL rfl ?_
  refine V_callV dL_law_273 kL_36 ykX6_fold (B_at (j := 0) (by decide) rfl) rfl hc rfl (Nat.le_of_ble_eq_true rfl) ⟨by decide, by decide, hk, hn⟩ (fun r h' q => ?_)
  obtain ⟨C1, rfl, rfl, hm⟩ := q
  show V G l R_law mn cL_law 4 ret room_1 (EL b L xs) QL sz k n 276 [some (.ref b), some (.ref a), some (.ref (a + 105)), some (.int (nI i))] [.int v] (B G a C1)
  refine V_aload_n dL_law_276 rfl ?_
  refine V_aload_n dL_law_277 rfl ?_
  refine V_iload_n dL_law_278 rfl ?_
  refine V_iconst (v := 1) dL_law_279 (by decide) ?_
  refine V_iadd dL_law_280 ?_
  refine V_sld (m := i + 1) dL_law_281 (nadd rfl (nlit (n := 1))) (by omega) hL rfl ?_
  refine V_callV dL_law_282 kL_39 ykX7_fold (B_at (j := 105) (by decide) rfl) rfl hm rfl (Nat.le_of_ble_eq_true rfl) ⟨by decide, by decide, hk, hn⟩ (fun r h' q => ?_)
  obtain ⟨C2, rfl, rfl, hJ2⟩ := q
  show V G l R_law mn cL_law 4 ret room_1 (EL b L xs) QL sz k n 285 [some (.ref b), some (.ref a), some (.ref (a + 105)), some (.int (nI i))] [.int v, .int v] (B G a C2)
  exact V_icmp_eq dL_law_285 (fun _ => tail C2 hJ2) (fun z => absurd rfl z)
set_option maxHeartbeats 2000000 in
theorem lw_setTurns (hJ : JE C) (hi : i + 4 ≤ L) (hL : L < 2147483648) (hk : k ≤ 600000) (hn : n ≤ 7302250) (tail : ∀ C2, JE C2 → V G l R_law mn cL_law 4 ret room_1 (EL b L xs) QL sz k n 832 [some (.ref b), some (.ref a), some (.ref (a + 105)), some (.int (nI i))] [] (B G a C2)) : V G l R_law mn cL_law 4 ret room_1 (EL b L xs) QL sz k n 290 [some (.ref b), some (.ref a), some (.ref (a + 105)), some (.int (nI i))] [] (B G a C) := by
  obtain ⟨v, hc⟩ := op_setTurns (G := G) (l := l) (sz := sz + k) (a := a) (xs (i + 1)) (xs (i + 2)) hJ
  refine V_aload_n dL_law_290 rfl ?_
  refine V_aload_n dL_law_291 rfl ?_
  refine V_iload_n dL_law_292 rfl ?_
  refine V_iconst (v := 1) dL_law_293 (by decide) ?_
  refine V_iadd dL_law_294 ?_
  refine V_sld (m := i + 1) dL_law_295 (nadd rfl (nlit (n := 1))) (by omega) hL rfl ?_
  refine V_aload_n dL_law_296 rfl ?_
  refine V_iload_n dL_law_297 rfl ?_
  refine V_iconst (v := 2) dL_law_298 (by decide) ?_
  refine V_iadd dL_law_299 ?_
  refine V_sld (m := i + 2) dL_law_300 (nadd rfl (nlit (n := 2))) (by omega) hL rfl ?_
  refine V_callV dL_law_301 kL_40 ykX6_setTurns (B_at (j := 0) (by decide) rfl) rfl hc rfl (Nat.le_of_ble_eq_true rfl) ⟨by decide, by decide, hk, hn⟩ (fun r h' q => ?_)
  obtain ⟨C1, rfl, rfl, hm⟩ := q
  show V G l R_law mn cL_law 4 ret room_1 (EL b L xs) QL sz k n 304 [some (.ref b), some (.ref a), some (.ref (a + 105)), some (.int (nI i))] [.int v] (B G a C1)
  refine V_aload_n dL_law_304 rfl ?_
  refine V_aload_n dL_law_305 rfl ?_
  refine V_iload_n dL_law_306 rfl ?_
  refine V_iconst (v := 1) dL_law_307 (by decide) ?_
  refine V_iadd dL_law_308 ?_
  refine V_sld (m := i + 1) dL_law_309 (nadd rfl (nlit (n := 1))) (by omega) hL rfl ?_
  refine V_aload_n dL_law_310 rfl ?_
  refine V_iload_n dL_law_311 rfl ?_
  refine V_iconst (v := 2) dL_law_312 (by decide) ?_
  refine V_iadd dL_law_313 ?_
  refine V_sld (m := i + 2) dL_law_314 (nadd rfl (nlit (n := 2))) (by omega) hL rfl ?_
  refine V_callV dL_law_315 kL_43 ykX7_setTurns (B_at (j := 105) (by decide) rfl) rfl hm rfl (Nat.le_of_ble_eq_true rfl) ⟨by decide, by decide, hk, hn⟩ (fun r h' q => ?_)
  obtain ⟨C2, rfl, rfl, hJ2⟩ := q
  show V G l R_law mn cL_law 4 ret room_1 (EL b L xs) QL sz k n 318 [some (.ref b), some (.ref a), some (.ref (a + 105)), some (.int (nI i))] [.int v, .int v] (B G a C2)
  exact V_icmp_eq dL_law_318 (fun _ => tail C2 hJ2) (fun z => absurd rfl z)
set_option maxHeartbeats 2000000 in
theorem lw_dropLoop (hJ : JE C) (hi : i + 4 ≤ L) (hL : L < 2147483648) (hk : k ≤ 600000) (hn : n ≤ 7302250) (tail : ∀ C2, JE C2 → V G l R_law mn cL_law 4 ret room_1 (EL b L xs) QL sz k n 832 [some (.ref b), some (.ref a), some (.ref (a + 105)), some (.int (nI i))] [] (B G a C2)) : V G l R_law mn cL_law 4 ret room_1 (EL b L xs) QL sz k n 323 [some (.ref b), some (.ref a), some (.ref (a + 105)), some (.int (nI i))] [] (B G a C) := by
  obtain ⟨v, hc⟩ := op_dropLoop (G := G) (l := l) (sz := sz + k) (a := a) (xs (i + 1)) hJ
  refine V_aload_n dL_law_323 rfl ?_
  refine V_aload_n dL_law_324 rfl ?_
  refine V_iload_n dL_law_325 rfl ?_
  refine V_iconst (v := 1) dL_law_326 (by decide) ?_
  refine V_iadd dL_law_327 ?_
  refine V_sld (m := i + 1) dL_law_328 (nadd rfl (nlit (n := 1))) (by omega) hL rfl ?_
  refine V_callV dL_law_329 kL_44 ykX6_dropLoop (B_at (j := 0) (by decide) rfl) rfl hc rfl (Nat.le_of_ble_eq_true rfl) ⟨by decide, by decide, hk, hn⟩ (fun r h' q => ?_)
  obtain ⟨C1, rfl, rfl, hm⟩ := q
  show V G l R_law mn cL_law 4 ret room_1 (EL b L xs) QL sz k n 332 [some (.ref b), some (.ref a), some (.ref (a + 105)), some (.int (nI i))] [.int v] (B G a C1)
  refine V_aload_n dL_law_332 rfl ?_
  refine V_aload_n dL_law_333 rfl ?_
  refine V_iload_n dL_law_334 rfl ?_
  refine V_iconst (v := 1) dL_law_335 (by decide) ?_
  refine V_iadd dL_law_336 ?_
  refine V_sld (m := i + 1) dL_law_337 (nadd rfl (nlit (n := 1))) (by omega) hL rfl ?_
  refine V_callV dL_law_338 kL_47 ykX7_dropLoop (B_at (j := 105) (by decide) rfl) rfl hm rfl (Nat.le_of_ble_eq_true rfl) ⟨by decide, by decide, hk, hn⟩ (fun r h' q => ?_)
  obtain ⟨C2, rfl, rfl, hJ2⟩ := q
  show V G l R_law mn cL_law 4 ret room_1 (EL b L xs) QL sz k n 341 [some (.ref b), some (.ref a), some (.ref (a + 105)), some (.int (nI i))] [.int v, .int v] (B G a C2)
  exact V_icmp_eq dL_law_341 (fun _ => tail C2 hJ2) (fun z => absurd rfl z)
set_option maxHeartbeats 2000000 in
theorem lw_play (hJ : JE C) (hi : i + 4 ≤ L) (hL : L < 2147483648) (hk : k ≤ 600000) (hn : n ≤ 7302250) (tail : ∀ C2, JE C2 → V G l R_law mn cL_law 4 ret room_1 (EL b L xs) QL sz k n 832 [some (.ref b), some (.ref a), some (.ref (a + 105)), some (.int (nI i))] [] (B G a C2)) : V G l R_law mn cL_law 4 ret room_1 (EL b L xs) QL sz k n 346 [some (.ref b), some (.ref a), some (.ref (a + 105)), some (.int (nI i))] [] (B G a C) := by
  obtain ⟨v, hc⟩ := op_play (G := G) (l := l) (sz := sz + k) (a := a) (xs (i + 1)) hJ
  refine V_aload_n dL_law_346 rfl ?_
  refine V_aload_n dL_law_347 rfl ?_
  refine V_iload_n dL_law_348 rfl ?_
  refine V_iconst (v := 1) dL_law_349 (by decide) ?_
  refine V_iadd dL_law_350 ?_
  refine V_sld (m := i + 1) dL_law_351 (nadd rfl (nlit (n := 1))) (by omega) hL rfl ?_
  refine V_callV dL_law_352 kL_48 ykX6_play (B_at (j := 0) (by decide) rfl) rfl hc rfl (Nat.le_of_ble_eq_true rfl) ⟨by decide, by decide, hk, hn⟩ (fun r h' q => ?_)
  obtain ⟨C1, rfl, rfl, hm⟩ := q
  show V G l R_law mn cL_law 4 ret room_1 (EL b L xs) QL sz k n 355 [some (.ref b), some (.ref a), some (.ref (a + 105)), some (.int (nI i))] [.int v] (B G a C1)
  refine V_aload_n dL_law_355 rfl ?_
  refine V_aload_n dL_law_356 rfl ?_
  refine V_iload_n dL_law_357 rfl ?_
  refine V_iconst (v := 1) dL_law_358 (by decide) ?_
  refine V_iadd dL_law_359 ?_
  refine V_sld (m := i + 1) dL_law_360 (nadd rfl (nlit (n := 1))) (by omega) hL rfl ?_
  refine V_callV dL_law_361 kL_51 ykX7_play (B_at (j := 105) (by decide) rfl) rfl hm rfl (Nat.le_of_ble_eq_true rfl) ⟨by decide, by decide, hk, hn⟩ (fun r h' q => ?_)
  obtain ⟨C2, rfl, rfl, hJ2⟩ := q
  show V G l R_law mn cL_law 4 ret room_1 (EL b L xs) QL sz k n 364 [some (.ref b), some (.ref a), some (.ref (a + 105)), some (.int (nI i))] [.int v, .int v] (B G a C2)
  exact V_icmp_eq dL_law_364 (fun _ => tail C2 hJ2) (fun z => absurd rfl z)
set_option maxHeartbeats 2000000 in
theorem lw_type (hJ : JE C) (hi : i + 4 ≤ L) (hL : L < 2147483648) (hk : k ≤ 600000) (hn : n ≤ 7302250) (tail : ∀ C2, JE C2 → V G l R_law mn cL_law 4 ret room_1 (EL b L xs) QL sz k n 832 [some (.ref b), some (.ref a), some (.ref (a + 105)), some (.int (nI i))] [] (B G a C2)) : V G l R_law mn cL_law 4 ret room_1 (EL b L xs) QL sz k n 369 [some (.ref b), some (.ref a), some (.ref (a + 105)), some (.int (nI i))] [] (B G a C) := by
  obtain ⟨v, hc⟩ := op_type (G := G) (l := l) (sz := sz + k) (a := a) (xs (i + 1)) _ rfl hJ
  refine V_aload_n dL_law_369 rfl ?_
  refine V_aload_n dL_law_370 rfl ?_
  refine V_iload_n dL_law_371 rfl ?_
  refine V_iconst (v := 1) dL_law_372 (by decide) ?_
  refine V_iadd dL_law_373 ?_
  refine V_sld (m := i + 1) dL_law_374 (nadd rfl (nlit (n := 1))) (by omega) hL rfl ?_
  refine V_i2c dL_law_375 rfl ?_
  refine V_callV dL_law_376 kL_52 ykX6_type (B_at (j := 0) (by decide) rfl) rfl hc rfl (Nat.le_of_ble_eq_true rfl) ⟨by decide, by decide, hk, hn⟩ (fun r h' q => ?_)
  obtain ⟨C1, rfl, rfl, hm⟩ := q
  show V G l R_law mn cL_law 4 ret room_1 (EL b L xs) QL sz k n 379 [some (.ref b), some (.ref a), some (.ref (a + 105)), some (.int (nI i))] [.int v] (B G a C1)
  refine V_aload_n dL_law_379 rfl ?_
  refine V_aload_n dL_law_380 rfl ?_
  refine V_iload_n dL_law_381 rfl ?_
  refine V_iconst (v := 1) dL_law_382 (by decide) ?_
  refine V_iadd dL_law_383 ?_
  refine V_sld (m := i + 1) dL_law_384 (nadd rfl (nlit (n := 1))) (by omega) hL rfl ?_
  refine V_i2c dL_law_385 rfl ?_
  refine V_callV dL_law_386 kL_56 ykX7_type (B_at (j := 105) (by decide) rfl) rfl hm rfl (Nat.le_of_ble_eq_true rfl) ⟨by decide, by decide, hk, hn⟩ (fun r h' q => ?_)
  obtain ⟨C2, rfl, rfl, hJ2⟩ := q
  show V G l R_law mn cL_law 4 ret room_1 (EL b L xs) QL sz k n 389 [some (.ref b), some (.ref a), some (.ref (a + 105)), some (.int (nI i))] [.int v, .int v] (B G a C2)
  exact V_icmp_eq dL_law_389 (fun _ => tail C2 hJ2) (fun z => absurd rfl z)
set_option maxHeartbeats 2000000 in
theorem lw_clearText (hJ : JE C) (hi : i + 4 ≤ L) (hL : L < 2147483648) (hk : k ≤ 600000) (hn : n ≤ 7302250) (tail : ∀ C2, JE C2 → V G l R_law mn cL_law 4 ret room_1 (EL b L xs) QL sz k n 832 [some (.ref b), some (.ref a), some (.ref (a + 105)), some (.int (nI i))] [] (B G a C2)) : V G l R_law mn cL_law 4 ret room_1 (EL b L xs) QL sz k n 394 [some (.ref b), some (.ref a), some (.ref (a + 105)), some (.int (nI i))] [] (B G a C) := by
  obtain ⟨v, hc⟩ := op_clearText (G := G) (l := l) (sz := sz + k) (a := a)  hJ
  refine V_aload_n dL_law_394 rfl ?_
  refine V_callV dL_law_395 kL_57 ykX6_clearText (B_at (j := 0) (by decide) rfl) rfl hc rfl (Nat.le_of_ble_eq_true rfl) ⟨by decide, by decide, hk, hn⟩ (fun r h' q => ?_)
  obtain ⟨C1, rfl, rfl, hm⟩ := q
  show V G l R_law mn cL_law 4 ret room_1 (EL b L xs) QL sz k n 398 [some (.ref b), some (.ref a), some (.ref (a + 105)), some (.int (nI i))] [.int v] (B G a C1)
  refine V_aload_n dL_law_398 rfl ?_
  refine V_callV dL_law_399 kL_60 ykX7_clearText (B_at (j := 105) (by decide) rfl) rfl hm rfl (Nat.le_of_ble_eq_true rfl) ⟨by decide, by decide, hk, hn⟩ (fun r h' q => ?_)
  obtain ⟨C2, rfl, rfl, hJ2⟩ := q
  show V G l R_law mn cL_law 4 ret room_1 (EL b L xs) QL sz k n 402 [some (.ref b), some (.ref a), some (.ref (a + 105)), some (.int (nI i))] [.int v, .int v] (B G a C2)
  exact V_icmp_eq dL_law_402 (fun _ => tail C2 hJ2) (fun z => absurd rfl z)
set_option maxHeartbeats 2000000 in
theorem lw_perform (hJ : JE C) (hi : i + 4 ≤ L) (hL : L < 2147483648) (hk : k ≤ 600000) (hn : n ≤ 7302250) (tail : ∀ C2, JE C2 → V G l R_law mn cL_law 4 ret room_1 (EL b L xs) QL sz k n 832 [some (.ref b), some (.ref a), some (.ref (a + 105)), some (.int (nI i))] [] (B G a C2)) : V G l R_law mn cL_law 4 ret room_1 (EL b L xs) QL sz k n 407 [some (.ref b), some (.ref a), some (.ref (a + 105)), some (.int (nI i))] [] (B G a C) := by
  obtain ⟨v, hc⟩ := op_perform (G := G) (l := l) (sz := sz + k) (a := a)  hJ
  refine V_aload_n dL_law_407 rfl ?_
  refine V_callV dL_law_408 kL_61 ykX6_perform (B_at (j := 0) (by decide) rfl) rfl hc rfl (Nat.le_of_ble_eq_true rfl) ⟨by decide, by decide, hk, hn⟩ (fun r h' q => ?_)
  obtain ⟨C1, rfl, rfl, hm⟩ := q
  show V G l R_law mn cL_law 4 ret room_1 (EL b L xs) QL sz k n 411 [some (.ref b), some (.ref a), some (.ref (a + 105)), some (.int (nI i))] [.int v] (B G a C1)
  refine V_aload_n dL_law_411 rfl ?_
  refine V_callV dL_law_412 kL_64 ykX7_perform (B_at (j := 105) (by decide) rfl) rfl hm rfl (Nat.le_of_ble_eq_true rfl) ⟨by decide, by decide, hk, hn⟩ (fun r h' q => ?_)
  obtain ⟨C2, rfl, rfl, hJ2⟩ := q
  show V G l R_law mn cL_law 4 ret room_1 (EL b L xs) QL sz k n 415 [some (.ref b), some (.ref a), some (.ref (a + 105)), some (.int (nI i))] [.int v, .int v] (B G a C2)
  exact V_icmp_eq dL_law_415 (fun _ => tail C2 hJ2) (fun z => absurd rfl z)
set_option maxHeartbeats 2000000 in
theorem lw_undo (hJ : JE C) (hi : i + 4 ≤ L) (hL : L < 2147483648) (hk : k ≤ 600000) (hn : n ≤ 7302250) (tail : ∀ C2, JE C2 → V G l R_law mn cL_law 4 ret room_1 (EL b L xs) QL sz k n 832 [some (.ref b), some (.ref a), some (.ref (a + 105)), some (.int (nI i))] [] (B G a C2)) : V G l R_law mn cL_law 4 ret room_1 (EL b L xs) QL sz k n 420 [some (.ref b), some (.ref a), some (.ref (a + 105)), some (.int (nI i))] [] (B G a C) := by
  obtain ⟨v, hc⟩ := op_undo (G := G) (l := l) (sz := sz + k) (a := a)  hJ
  refine V_aload_n dL_law_420 rfl ?_
  refine V_callV dL_law_421 kL_65 ykX6_undo (B_at (j := 0) (by decide) rfl) rfl hc rfl (Nat.le_of_ble_eq_true rfl) ⟨by decide, by decide, hk, hn⟩ (fun r h' q => ?_)
  obtain ⟨C1, rfl, rfl, hm⟩ := q
  show V G l R_law mn cL_law 4 ret room_1 (EL b L xs) QL sz k n 424 [some (.ref b), some (.ref a), some (.ref (a + 105)), some (.int (nI i))] [.int v] (B G a C1)
  refine V_aload_n dL_law_424 rfl ?_
  refine V_callV dL_law_425 kL_68 ykX7_undo (B_at (j := 105) (by decide) rfl) rfl hm rfl (Nat.le_of_ble_eq_true rfl) ⟨by decide, by decide, hk, hn⟩ (fun r h' q => ?_)
  obtain ⟨C2, rfl, rfl, hJ2⟩ := q
  show V G l R_law mn cL_law 4 ret room_1 (EL b L xs) QL sz k n 428 [some (.ref b), some (.ref a), some (.ref (a + 105)), some (.int (nI i))] [.int v, .int v] (B G a C2)
  exact V_icmp_eq dL_law_428 (fun _ => tail C2 hJ2) (fun z => absurd rfl z)
set_option maxHeartbeats 2000000 in
theorem lw_keep (hJ : JE C) (hi : i + 4 ≤ L) (hL : L < 2147483648) (hk : k ≤ 600000) (hn : n ≤ 7302250) (tail : ∀ C2, JE C2 → V G l R_law mn cL_law 4 ret room_1 (EL b L xs) QL sz k n 832 [some (.ref b), some (.ref a), some (.ref (a + 105)), some (.int (nI i))] [] (B G a C2)) : V G l R_law mn cL_law 4 ret room_1 (EL b L xs) QL sz k n 433 [some (.ref b), some (.ref a), some (.ref (a + 105)), some (.int (nI i))] [] (B G a C) := by
  obtain ⟨v, hc⟩ := op_keep (G := G) (l := l) (sz := sz + k) (a := a)  hJ
  refine V_aload_n dL_law_433 rfl ?_
  refine V_callV dL_law_434 kL_69 ykX6_keep (B_at (j := 0) (by decide) rfl) rfl hc rfl (Nat.le_of_ble_eq_true rfl) ⟨by decide, by decide, hk, hn⟩ (fun r h' q => ?_)
  obtain ⟨C1, rfl, rfl, hm⟩ := q
  show V G l R_law mn cL_law 4 ret room_1 (EL b L xs) QL sz k n 437 [some (.ref b), some (.ref a), some (.ref (a + 105)), some (.int (nI i))] [.int v] (B G a C1)
  refine V_aload_n dL_law_437 rfl ?_
  refine V_callV dL_law_438 kL_72 ykX7_keep (B_at (j := 105) (by decide) rfl) rfl hm rfl (Nat.le_of_ble_eq_true rfl) ⟨by decide, by decide, hk, hn⟩ (fun r h' q => ?_)
  obtain ⟨C2, rfl, rfl, hJ2⟩ := q
  show V G l R_law mn cL_law 4 ret room_1 (EL b L xs) QL sz k n 441 [some (.ref b), some (.ref a), some (.ref (a + 105)), some (.int (nI i))] [.int v, .int v] (B G a C2)
  exact V_icmp_eq dL_law_441 (fun _ => tail C2 hJ2) (fun z => absurd rfl z)
set_option maxHeartbeats 2000000 in
theorem lw_restore (hJ : JE C) (hi : i + 4 ≤ L) (hL : L < 2147483648) (hk : k ≤ 600000) (hn : n ≤ 7302250) (tail : ∀ C2, JE C2 → V G l R_law mn cL_law 4 ret room_1 (EL b L xs) QL sz k n 832 [some (.ref b), some (.ref a), some (.ref (a + 105)), some (.int (nI i))] [] (B G a C2)) : V G l R_law mn cL_law 4 ret room_1 (EL b L xs) QL sz k n 446 [some (.ref b), some (.ref a), some (.ref (a + 105)), some (.int (nI i))] [] (B G a C) := by
  obtain ⟨v, hc⟩ := op_restore (G := G) (l := l) (sz := sz + k) (a := a)  hJ
  refine V_aload_n dL_law_446 rfl ?_
  refine V_callV dL_law_447 kL_73 ykX6_restore (B_at (j := 0) (by decide) rfl) rfl hc rfl (Nat.le_of_ble_eq_true rfl) ⟨by decide, by decide, hk, hn⟩ (fun r h' q => ?_)
  obtain ⟨C1, rfl, rfl, hm⟩ := q
  show V G l R_law mn cL_law 4 ret room_1 (EL b L xs) QL sz k n 450 [some (.ref b), some (.ref a), some (.ref (a + 105)), some (.int (nI i))] [.int v] (B G a C1)
  refine V_aload_n dL_law_450 rfl ?_
  refine V_callV dL_law_451 kL_76 ykX7_restore (B_at (j := 105) (by decide) rfl) rfl hm rfl (Nat.le_of_ble_eq_true rfl) ⟨by decide, by decide, hk, hn⟩ (fun r h' q => ?_)
  obtain ⟨C2, rfl, rfl, hJ2⟩ := q
  show V G l R_law mn cL_law 4 ret room_1 (EL b L xs) QL sz k n 454 [some (.ref b), some (.ref a), some (.ref (a + 105)), some (.int (nI i))] [.int v, .int v] (B G a C2)
  exact V_icmp_eq dL_law_454 (fun _ => tail C2 hJ2) (fun z => absurd rfl z)
set_option maxHeartbeats 2000000 in
theorem lw_cell (hJ : JE C) (hi : i + 4 ≤ L) (hL : L < 2147483648) (hk : k ≤ 600000) (hn : n ≤ 7302250) (tail : ∀ C2, JE C2 → V G l R_law mn cL_law 4 ret room_1 (EL b L xs) QL sz k n 832 [some (.ref b), some (.ref a), some (.ref (a + 105)), some (.int (nI i))] [] (B G a C2)) : V G l R_law mn cL_law 4 ret room_1 (EL b L xs) QL sz k n 459 [some (.ref b), some (.ref a), some (.ref (a + 105)), some (.int (nI i))] [] (B G a C) := by
  obtain ⟨v, hc⟩ := op_cell (G := G) (l := l) (sz := sz + k) (a := a) (xs (i + 1)) hJ
  refine V_aload_n dL_law_459 rfl ?_
  refine V_aload_n dL_law_460 rfl ?_
  refine V_iload_n dL_law_461 rfl ?_
  refine V_iconst (v := 1) dL_law_462 (by decide) ?_
  refine V_iadd dL_law_463 ?_
  refine V_sld (m := i + 1) dL_law_464 (nadd rfl (nlit (n := 1))) (by omega) hL rfl ?_
  refine V_callV dL_law_465 kL_77 ykX6_cell (B_at (j := 0) (by decide) rfl) rfl hc rfl (Nat.le_of_ble_eq_true rfl) ⟨by decide, by decide, hk, hn⟩ (fun r h' q => ?_)
  obtain ⟨C1, rfl, rfl, hm⟩ := q
  show V G l R_law mn cL_law 4 ret room_1 (EL b L xs) QL sz k n 468 [some (.ref b), some (.ref a), some (.ref (a + 105)), some (.int (nI i))] [.int v] (B G a C1)
  refine V_aload_n dL_law_468 rfl ?_
  refine V_aload_n dL_law_469 rfl ?_
  refine V_iload_n dL_law_470 rfl ?_
  refine V_iconst (v := 1) dL_law_471 (by decide) ?_
  refine V_iadd dL_law_472 ?_
  refine V_sld (m := i + 1) dL_law_473 (nadd rfl (nlit (n := 1))) (by omega) hL rfl ?_
  refine V_callV dL_law_474 kL_80 ykX7_cell (B_at (j := 105) (by decide) rfl) rfl hm rfl (Nat.le_of_ble_eq_true rfl) ⟨by decide, by decide, hk, hn⟩ (fun r h' q => ?_)
  obtain ⟨C2, rfl, rfl, hJ2⟩ := q
  show V G l R_law mn cL_law 4 ret room_1 (EL b L xs) QL sz k n 477 [some (.ref b), some (.ref a), some (.ref (a + 105)), some (.int (nI i))] [.int v, .int v] (B G a C2)
  exact V_icmp_eq dL_law_477 (fun _ => tail C2 hJ2) (fun z => absurd rfl z)
set_option maxHeartbeats 2000000 in
theorem lw_ofTry (hJ : JE C) (hi : i + 4 ≤ L) (hL : L < 2147483648) (hk : k ≤ 600000) (hn : n ≤ 7302250) (tail : ∀ C2, JE C2 → V G l R_law mn cL_law 4 ret room_1 (EL b L xs) QL sz k n 832 [some (.ref b), some (.ref a), some (.ref (a + 105)), some (.int (nI i))] [] (B G a C2)) : V G l R_law mn cL_law 4 ret room_1 (EL b L xs) QL sz k n 482 [some (.ref b), some (.ref a), some (.ref (a + 105)), some (.int (nI i))] [] (B G a C) := by
  obtain ⟨v, hc⟩ := op_ofTry (G := G) (l := l) (sz := sz + k) (a := a) (xs (i + 1)) (xs (i + 2)) (xs (i + 3)) hJ
  refine V_aload_n dL_law_482 rfl ?_
  refine V_aload_n dL_law_483 rfl ?_
  refine V_iload_n dL_law_484 rfl ?_
  refine V_iconst (v := 1) dL_law_485 (by decide) ?_
  refine V_iadd dL_law_486 ?_
  refine V_sld (m := i + 1) dL_law_487 (nadd rfl (nlit (n := 1))) (by omega) hL rfl ?_
  refine V_aload_n dL_law_488 rfl ?_
  refine V_iload_n dL_law_489 rfl ?_
  refine V_iconst (v := 2) dL_law_490 (by decide) ?_
  refine V_iadd dL_law_491 ?_
  refine V_sld (m := i + 2) dL_law_492 (nadd rfl (nlit (n := 2))) (by omega) hL rfl ?_
  refine V_aload_n dL_law_493 rfl ?_
  refine V_iload_n dL_law_494 rfl ?_
  refine V_iconst (v := 3) dL_law_495 (by decide) ?_
  refine V_iadd dL_law_496 ?_
  refine V_sld (m := i + 3) dL_law_497 (nadd rfl (nlit (n := 3))) (by omega) hL rfl ?_
  refine V_callV dL_law_498 kL_81 ykX6_ofTry (B_at (j := 0) (by decide) rfl) rfl hc rfl (Nat.le_of_ble_eq_true rfl) ⟨by decide, by decide, hk, hn⟩ (fun r h' q => ?_)
  obtain ⟨C1, rfl, rfl, hm⟩ := q
  show V G l R_law mn cL_law 4 ret room_1 (EL b L xs) QL sz k n 501 [some (.ref b), some (.ref a), some (.ref (a + 105)), some (.int (nI i))] [.int v] (B G a C1)
  refine V_aload_n dL_law_501 rfl ?_
  refine V_aload_n dL_law_502 rfl ?_
  refine V_iload_n dL_law_503 rfl ?_
  refine V_iconst (v := 1) dL_law_504 (by decide) ?_
  refine V_iadd dL_law_505 ?_
  refine V_sld (m := i + 1) dL_law_506 (nadd rfl (nlit (n := 1))) (by omega) hL rfl ?_
  refine V_aload_n dL_law_507 rfl ?_
  refine V_iload_n dL_law_508 rfl ?_
  refine V_iconst (v := 2) dL_law_509 (by decide) ?_
  refine V_iadd dL_law_510 ?_
  refine V_sld (m := i + 2) dL_law_511 (nadd rfl (nlit (n := 2))) (by omega) hL rfl ?_
  refine V_aload_n dL_law_512 rfl ?_
  refine V_iload_n dL_law_513 rfl ?_
  refine V_iconst (v := 3) dL_law_514 (by decide) ?_
  refine V_iadd dL_law_515 ?_
  refine V_sld (m := i + 3) dL_law_516 (nadd rfl (nlit (n := 3))) (by omega) hL rfl ?_
  refine V_callV dL_law_517 kL_85 ykX7_ofTry (B_at (j := 105) (by decide) rfl) rfl hm rfl (Nat.le_of_ble_eq_true rfl) ⟨by decide, by decide, hk, hn⟩ (fun r h' q => ?_)
  obtain ⟨C2, rfl, rfl, hJ2⟩ := q
  show V G l R_law mn cL_law 4 ret room_1 (EL b L xs) QL sz k n 520 [some (.ref b), some (.ref a), some (.ref (a + 105)), some (.int (nI i))] [.int v, .int v] (B G a C2)
  exact V_icmp_eq dL_law_520 (fun _ => tail C2 hJ2) (fun z => absurd rfl z)
set_option maxHeartbeats 2000000 in
theorem lw_ofLoop (hJ : JE C) (hi : i + 4 ≤ L) (hL : L < 2147483648) (hk : k ≤ 600000) (hn : n ≤ 7302250) (tail : ∀ C2, JE C2 → V G l R_law mn cL_law 4 ret room_1 (EL b L xs) QL sz k n 832 [some (.ref b), some (.ref a), some (.ref (a + 105)), some (.int (nI i))] [] (B G a C2)) : V G l R_law mn cL_law 4 ret room_1 (EL b L xs) QL sz k n 525 [some (.ref b), some (.ref a), some (.ref (a + 105)), some (.int (nI i))] [] (B G a C) := by
  obtain ⟨v, hc⟩ := op_ofLoop (G := G) (l := l) (sz := sz + k) (a := a) (xs (i + 1)) (xs (i + 2)) (xs (i + 3)) hJ
  refine V_aload_n dL_law_525 rfl ?_
  refine V_aload_n dL_law_526 rfl ?_
  refine V_iload_n dL_law_527 rfl ?_
  refine V_iconst (v := 1) dL_law_528 (by decide) ?_
  refine V_iadd dL_law_529 ?_
  refine V_sld (m := i + 1) dL_law_530 (nadd rfl (nlit (n := 1))) (by omega) hL rfl ?_
  refine V_aload_n dL_law_531 rfl ?_
  refine V_iload_n dL_law_532 rfl ?_
  refine V_iconst (v := 2) dL_law_533 (by decide) ?_
  refine V_iadd dL_law_534 ?_
  refine V_sld (m := i + 2) dL_law_535 (nadd rfl (nlit (n := 2))) (by omega) hL rfl ?_
  refine V_aload_n dL_law_536 rfl ?_
  refine V_iload_n dL_law_537 rfl ?_
  refine V_iconst (v := 3) dL_law_538 (by decide) ?_
  refine V_iadd dL_law_539 ?_
  refine V_sld (m := i + 3) dL_law_540 (nadd rfl (nlit (n := 3))) (by omega) hL rfl ?_
  refine V_callV dL_law_541 kL_86 ykX6_ofLoop (B_at (j := 0) (by decide) rfl) rfl hc rfl (Nat.le_of_ble_eq_true rfl) ⟨by decide, by decide, hk, hn⟩ (fun r h' q => ?_)
  obtain ⟨C1, rfl, rfl, hm⟩ := q
  show V G l R_law mn cL_law 4 ret room_1 (EL b L xs) QL sz k n 544 [some (.ref b), some (.ref a), some (.ref (a + 105)), some (.int (nI i))] [.int v] (B G a C1)
  refine V_aload_n dL_law_544 rfl ?_
  refine V_aload_n dL_law_545 rfl ?_
  refine V_iload_n dL_law_546 rfl ?_
  refine V_iconst (v := 1) dL_law_547 (by decide) ?_
  refine V_iadd dL_law_548 ?_
  refine V_sld (m := i + 1) dL_law_549 (nadd rfl (nlit (n := 1))) (by omega) hL rfl ?_
  refine V_aload_n dL_law_550 rfl ?_
  refine V_iload_n dL_law_551 rfl ?_
  refine V_iconst (v := 2) dL_law_552 (by decide) ?_
  refine V_iadd dL_law_553 ?_
  refine V_sld (m := i + 2) dL_law_554 (nadd rfl (nlit (n := 2))) (by omega) hL rfl ?_
  refine V_aload_n dL_law_555 rfl ?_
  refine V_iload_n dL_law_556 rfl ?_
  refine V_iconst (v := 3) dL_law_557 (by decide) ?_
  refine V_iadd dL_law_558 ?_
  refine V_sld (m := i + 3) dL_law_559 (nadd rfl (nlit (n := 3))) (by omega) hL rfl ?_
  refine V_callV dL_law_560 kL_89 ykX7_ofLoop (B_at (j := 105) (by decide) rfl) rfl hm rfl (Nat.le_of_ble_eq_true rfl) ⟨by decide, by decide, hk, hn⟩ (fun r h' q => ?_)
  obtain ⟨C2, rfl, rfl, hJ2⟩ := q
  show V G l R_law mn cL_law 4 ret room_1 (EL b L xs) QL sz k n 563 [some (.ref b), some (.ref a), some (.ref (a + 105)), some (.int (nI i))] [.int v, .int v] (B G a C2)
  exact V_icmp_eq dL_law_563 (fun _ => tail C2 hJ2) (fun z => absurd rfl z)
set_option maxHeartbeats 2000000 in
theorem lw_length (hJ : JE C) (hi : i + 4 ≤ L) (hL : L < 2147483648) (hk : k ≤ 600000) (hn : n ≤ 7302250) (tail : ∀ C2, JE C2 → V G l R_law mn cL_law 4 ret room_1 (EL b L xs) QL sz k n 832 [some (.ref b), some (.ref a), some (.ref (a + 105)), some (.int (nI i))] [] (B G a C2)) : V G l R_law mn cL_law 4 ret room_1 (EL b L xs) QL sz k n 568 [some (.ref b), some (.ref a), some (.ref (a + 105)), some (.int (nI i))] [] (B G a C) := by
  obtain ⟨v, hc⟩ := op_length (G := G) (l := l) (sz := sz + k) (a := a) (xs (i + 1)) (xs (i + 2)) hJ
  refine V_aload_n dL_law_568 rfl ?_
  refine V_aload_n dL_law_569 rfl ?_
  refine V_iload_n dL_law_570 rfl ?_
  refine V_iconst (v := 1) dL_law_571 (by decide) ?_
  refine V_iadd dL_law_572 ?_
  refine V_sld (m := i + 1) dL_law_573 (nadd rfl (nlit (n := 1))) (by omega) hL rfl ?_
  refine V_aload_n dL_law_574 rfl ?_
  refine V_iload_n dL_law_575 rfl ?_
  refine V_iconst (v := 2) dL_law_576 (by decide) ?_
  refine V_iadd dL_law_577 ?_
  refine V_sld (m := i + 2) dL_law_578 (nadd rfl (nlit (n := 2))) (by omega) hL rfl ?_
  refine V_callV dL_law_579 kL_90 ykX6_length (B_at (j := 0) (by decide) rfl) rfl hc rfl (Nat.le_of_ble_eq_true rfl) ⟨by decide, by decide, hk, hn⟩ (fun r h' q => ?_)
  obtain ⟨C1, rfl, rfl, hm⟩ := q
  show V G l R_law mn cL_law 4 ret room_1 (EL b L xs) QL sz k n 582 [some (.ref b), some (.ref a), some (.ref (a + 105)), some (.int (nI i))] [.int v] (B G a C1)
  refine V_aload_n dL_law_582 rfl ?_
  refine V_aload_n dL_law_583 rfl ?_
  refine V_iload_n dL_law_584 rfl ?_
  refine V_iconst (v := 1) dL_law_585 (by decide) ?_
  refine V_iadd dL_law_586 ?_
  refine V_sld (m := i + 1) dL_law_587 (nadd rfl (nlit (n := 1))) (by omega) hL rfl ?_
  refine V_aload_n dL_law_588 rfl ?_
  refine V_iload_n dL_law_589 rfl ?_
  refine V_iconst (v := 2) dL_law_590 (by decide) ?_
  refine V_iadd dL_law_591 ?_
  refine V_sld (m := i + 2) dL_law_592 (nadd rfl (nlit (n := 2))) (by omega) hL rfl ?_
  refine V_callV dL_law_593 kL_93 ykX7_length (B_at (j := 105) (by decide) rfl) rfl hm rfl (Nat.le_of_ble_eq_true rfl) ⟨by decide, by decide, hk, hn⟩ (fun r h' q => ?_)
  obtain ⟨C2, rfl, rfl, hJ2⟩ := q
  show V G l R_law mn cL_law 4 ret room_1 (EL b L xs) QL sz k n 596 [some (.ref b), some (.ref a), some (.ref (a + 105)), some (.int (nI i))] [.int v, .int v] (B G a C2)
  exact V_icmp_eq dL_law_596 (fun _ => tail C2 hJ2) (fun z => absurd rfl z)
set_option maxHeartbeats 2000000 in
theorem lw_total (hJ : JE C) (hi : i + 4 ≤ L) (hL : L < 2147483648) (hk : k ≤ 600000) (hn : n ≤ 7302250) (tail : ∀ C2, JE C2 → V G l R_law mn cL_law 4 ret room_1 (EL b L xs) QL sz k n 832 [some (.ref b), some (.ref a), some (.ref (a + 105)), some (.int (nI i))] [] (B G a C2)) : V G l R_law mn cL_law 4 ret room_1 (EL b L xs) QL sz k n 601 [some (.ref b), some (.ref a), some (.ref (a + 105)), some (.int (nI i))] [] (B G a C) := by
  obtain ⟨v, hc⟩ := op_total (G := G) (l := l) (sz := sz + k) (a := a) (xs (i + 1)) hJ
  refine V_aload_n dL_law_601 rfl ?_
  refine V_aload_n dL_law_602 rfl ?_
  refine V_iload_n dL_law_603 rfl ?_
  refine V_iconst (v := 1) dL_law_604 (by decide) ?_
  refine V_iadd dL_law_605 ?_
  refine V_sld (m := i + 1) dL_law_606 (nadd rfl (nlit (n := 1))) (by omega) hL rfl ?_
  refine V_callV dL_law_607 kL_94 ykX6_total (B_at (j := 0) (by decide) rfl) rfl hc rfl (Nat.le_of_ble_eq_true rfl) ⟨by decide, by decide, hk, hn⟩ (fun r h' q => ?_)
  obtain ⟨C1, rfl, rfl, hm⟩ := q
  show V G l R_law mn cL_law 4 ret room_1 (EL b L xs) QL sz k n 610 [some (.ref b), some (.ref a), some (.ref (a + 105)), some (.int (nI i))] [.int v] (B G a C1)
  refine V_aload_n dL_law_610 rfl ?_
  refine V_aload_n dL_law_611 rfl ?_
  refine V_iload_n dL_law_612 rfl ?_
  refine V_iconst (v := 1) dL_law_613 (by decide) ?_
  refine V_iadd dL_law_614 ?_
  refine V_sld (m := i + 1) dL_law_615 (nadd rfl (nlit (n := 1))) (by omega) hL rfl ?_
  refine V_callV dL_law_616 kL_97 ykX7_total (B_at (j := 105) (by decide) rfl) rfl hm rfl (Nat.le_of_ble_eq_true rfl) ⟨by decide, by decide, hk, hn⟩ (fun r h' q => ?_)
  obtain ⟨C2, rfl, rfl, hJ2⟩ := q
  show V G l R_law mn cL_law 4 ret room_1 (EL b L xs) QL sz k n 619 [some (.ref b), some (.ref a), some (.ref (a + 105)), some (.int (nI i))] [.int v, .int v] (B G a C2)
  exact V_icmp_eq dL_law_619 (fun _ => tail C2 hJ2) (fun z => absurd rfl z)
set_option maxHeartbeats 2000000 in
theorem lw_alike (hJ : JE C) (hi : i + 4 ≤ L) (hL : L < 2147483648) (hk : k ≤ 600000) (hn : n ≤ 7302250) (tail : ∀ C2, JE C2 → V G l R_law mn cL_law 4 ret room_1 (EL b L xs) QL sz k n 832 [some (.ref b), some (.ref a), some (.ref (a + 105)), some (.int (nI i))] [] (B G a C2)) : V G l R_law mn cL_law 4 ret room_1 (EL b L xs) QL sz k n 624 [some (.ref b), some (.ref a), some (.ref (a + 105)), some (.int (nI i))] [] (B G a C) := by
  obtain ⟨v, hc⟩ := op_alike (G := G) (l := l) (sz := sz + k) (a := a) (xs (i + 1)) (xs (i + 2)) (xs (i + 3)) hJ
  refine V_aload_n dL_law_624 rfl ?_
  refine V_aload_n dL_law_625 rfl ?_
  refine V_iload_n dL_law_626 rfl ?_
  refine V_iconst (v := 1) dL_law_627 (by decide) ?_
  refine V_iadd dL_law_628 ?_
  refine V_sld (m := i + 1) dL_law_629 (nadd rfl (nlit (n := 1))) (by omega) hL rfl ?_
  refine V_aload_n dL_law_630 rfl ?_
  refine V_iload_n dL_law_631 rfl ?_
  refine V_iconst (v := 2) dL_law_632 (by decide) ?_
  refine V_iadd dL_law_633 ?_
  refine V_sld (m := i + 2) dL_law_634 (nadd rfl (nlit (n := 2))) (by omega) hL rfl ?_
  refine V_aload_n dL_law_635 rfl ?_
  refine V_iload_n dL_law_636 rfl ?_
  refine V_iconst (v := 3) dL_law_637 (by decide) ?_
  refine V_iadd dL_law_638 ?_
  refine V_sld (m := i + 3) dL_law_639 (nadd rfl (nlit (n := 3))) (by omega) hL rfl ?_
  refine V_callV dL_law_640 kL_98 ykX6_alike (B_at (j := 0) (by decide) rfl) rfl hc rfl (Nat.le_of_ble_eq_true rfl) ⟨by decide, by decide, hk, hn⟩ (fun r h' q => ?_)
  obtain ⟨C1, rfl, rfl, hm⟩ := q
  show V G l R_law mn cL_law 4 ret room_1 (EL b L xs) QL sz k n 643 [some (.ref b), some (.ref a), some (.ref (a + 105)), some (.int (nI i))] [.int v] (B G a C1)
  refine V_aload_n dL_law_643 rfl ?_
  refine V_aload_n dL_law_644 rfl ?_
  refine V_iload_n dL_law_645 rfl ?_
  refine V_iconst (v := 1) dL_law_646 (by decide) ?_
  refine V_iadd dL_law_647 ?_
  refine V_sld (m := i + 1) dL_law_648 (nadd rfl (nlit (n := 1))) (by omega) hL rfl ?_
  refine V_aload_n dL_law_649 rfl ?_
  refine V_iload_n dL_law_650 rfl ?_
  refine V_iconst (v := 2) dL_law_651 (by decide) ?_
  refine V_iadd dL_law_652 ?_
  refine V_sld (m := i + 2) dL_law_653 (nadd rfl (nlit (n := 2))) (by omega) hL rfl ?_
  refine V_aload_n dL_law_654 rfl ?_
  refine V_iload_n dL_law_655 rfl ?_
  refine V_iconst (v := 3) dL_law_656 (by decide) ?_
  refine V_iadd dL_law_657 ?_
  refine V_sld (m := i + 3) dL_law_658 (nadd rfl (nlit (n := 3))) (by omega) hL rfl ?_
  refine V_callV dL_law_659 kL_101 ykX7_alike (B_at (j := 105) (by decide) rfl) rfl hm rfl (Nat.le_of_ble_eq_true rfl) ⟨by decide, by decide, hk, hn⟩ (fun r h' q => ?_)
  obtain ⟨C2, rfl, rfl, hJ2⟩ := q
  show V G l R_law mn cL_law 4 ret room_1 (EL b L xs) QL sz k n 662 [some (.ref b), some (.ref a), some (.ref (a + 105)), some (.int (nI i))] [.int v, .int v] (B G a C2)
  exact V_icmp_eq dL_law_662 (fun _ => tail C2 hJ2) (fun z => absurd rfl z)
set_option maxHeartbeats 2000000 in
theorem lw_bestPair (hJ : JE C) (hi : i + 4 ≤ L) (hL : L < 2147483648) (hk : k ≤ 600000) (hn : n ≤ 7302250) (tail : ∀ C2, JE C2 → V G l R_law mn cL_law 4 ret room_1 (EL b L xs) QL sz k n 832 [some (.ref b), some (.ref a), some (.ref (a + 105)), some (.int (nI i))] [] (B G a C2)) : V G l R_law mn cL_law 4 ret room_1 (EL b L xs) QL sz k n 667 [some (.ref b), some (.ref a), some (.ref (a + 105)), some (.int (nI i))] [] (B G a C) := by
  obtain ⟨v, hc⟩ := op_bestPair (G := G) (l := l) (sz := sz + k) (a := a) (xs (i + 1)) hJ
  refine V_aload_n dL_law_667 rfl ?_
  refine V_aload_n dL_law_668 rfl ?_
  refine V_iload_n dL_law_669 rfl ?_
  refine V_iconst (v := 1) dL_law_670 (by decide) ?_
  refine V_iadd dL_law_671 ?_
  refine V_sld (m := i + 1) dL_law_672 (nadd rfl (nlit (n := 1))) (by omega) hL rfl ?_
  refine V_callV dL_law_673 kL_102 ykX6_bestPair (B_at (j := 0) (by decide) rfl) rfl hc rfl (Nat.le_of_ble_eq_true rfl) ⟨by decide, by decide, hk, hn⟩ (fun r h' q => ?_)
  obtain ⟨C1, rfl, rfl, hm⟩ := q
  show V G l R_law mn cL_law 4 ret room_1 (EL b L xs) QL sz k n 676 [some (.ref b), some (.ref a), some (.ref (a + 105)), some (.int (nI i))] [.int v] (B G a C1)
  refine V_aload_n dL_law_676 rfl ?_
  refine V_aload_n dL_law_677 rfl ?_
  refine V_iload_n dL_law_678 rfl ?_
  refine V_iconst (v := 1) dL_law_679 (by decide) ?_
  refine V_iadd dL_law_680 ?_
  refine V_sld (m := i + 1) dL_law_681 (nadd rfl (nlit (n := 1))) (by omega) hL rfl ?_
  refine V_callV dL_law_682 kL_105 ykX7_bestPair (B_at (j := 105) (by decide) rfl) rfl hm rfl (Nat.le_of_ble_eq_true rfl) ⟨by decide, by decide, hk, hn⟩ (fun r h' q => ?_)
  obtain ⟨C2, rfl, rfl, hJ2⟩ := q
  show V G l R_law mn cL_law 4 ret room_1 (EL b L xs) QL sz k n 685 [some (.ref b), some (.ref a), some (.ref (a + 105)), some (.int (nI i))] [.int v, .int v] (B G a C2)
  exact V_icmp_eq dL_law_685 (fun _ => tail C2 hJ2) (fun z => absurd rfl z)
set_option maxHeartbeats 2000000 in
theorem lw_fits (hJ : JE C) (hi : i + 4 ≤ L) (hL : L < 2147483648) (hk : k ≤ 600000) (hn : n ≤ 7302250) (tail : ∀ C2, JE C2 → V G l R_law mn cL_law 4 ret room_1 (EL b L xs) QL sz k n 832 [some (.ref b), some (.ref a), some (.ref (a + 105)), some (.int (nI i))] [] (B G a C2)) : V G l R_law mn cL_law 4 ret room_1 (EL b L xs) QL sz k n 690 [some (.ref b), some (.ref a), some (.ref (a + 105)), some (.int (nI i))] [] (B G a C) := by
  obtain ⟨v, hc⟩ := op_fits (G := G) (l := l) (sz := sz + k) (a := a) (xs (i + 1)) (xs (i + 2)) hJ
  refine V_aload_n dL_law_690 rfl ?_
  refine V_aload_n dL_law_691 rfl ?_
  refine V_iload_n dL_law_692 rfl ?_
  refine V_iconst (v := 1) dL_law_693 (by decide) ?_
  refine V_iadd dL_law_694 ?_
  refine V_sld (m := i + 1) dL_law_695 (nadd rfl (nlit (n := 1))) (by omega) hL rfl ?_
  refine V_aload_n dL_law_696 rfl ?_
  refine V_iload_n dL_law_697 rfl ?_
  refine V_iconst (v := 2) dL_law_698 (by decide) ?_
  refine V_iadd dL_law_699 ?_
  refine V_sld (m := i + 2) dL_law_700 (nadd rfl (nlit (n := 2))) (by omega) hL rfl ?_
  refine V_callV dL_law_701 kL_106 ykX6_fits (B_at (j := 0) (by decide) rfl) rfl hc rfl (Nat.le_of_ble_eq_true rfl) ⟨by decide, by decide, hk, hn⟩ (fun r h' q => ?_)
  obtain ⟨C1, rfl, rfl, hm⟩ := q
  show V G l R_law mn cL_law 4 ret room_1 (EL b L xs) QL sz k n 704 [some (.ref b), some (.ref a), some (.ref (a + 105)), some (.int (nI i))] [.int v] (B G a C1)
  refine V_aload_n dL_law_704 rfl ?_
  refine V_aload_n dL_law_705 rfl ?_
  refine V_iload_n dL_law_706 rfl ?_
  refine V_iconst (v := 1) dL_law_707 (by decide) ?_
  refine V_iadd dL_law_708 ?_
  refine V_sld (m := i + 1) dL_law_709 (nadd rfl (nlit (n := 1))) (by omega) hL rfl ?_
  refine V_aload_n dL_law_710 rfl ?_
  refine V_iload_n dL_law_711 rfl ?_
  refine V_iconst (v := 2) dL_law_712 (by decide) ?_
  refine V_iadd dL_law_713 ?_
  refine V_sld (m := i + 2) dL_law_714 (nadd rfl (nlit (n := 2))) (by omega) hL rfl ?_
  refine V_callV dL_law_715 kL_109 ykX7_fits (B_at (j := 105) (by decide) rfl) rfl hm rfl (Nat.le_of_ble_eq_true rfl) ⟨by decide, by decide, hk, hn⟩ (fun r h' q => ?_)
  obtain ⟨C2, rfl, rfl, hJ2⟩ := q
  show V G l R_law mn cL_law 4 ret room_1 (EL b L xs) QL sz k n 718 [some (.ref b), some (.ref a), some (.ref (a + 105)), some (.int (nI i))] [.int v, .int v] (B G a C2)
  exact V_icmp_eq dL_law_718 (fun _ => tail C2 hJ2) (fun z => absurd rfl z)
set_option maxHeartbeats 2000000 in
theorem lw_mostTurns (hJ : JE C) (hi : i + 4 ≤ L) (hL : L < 2147483648) (hk : k ≤ 600000) (hn : n ≤ 7302250) (tail : ∀ C2, JE C2 → V G l R_law mn cL_law 4 ret room_1 (EL b L xs) QL sz k n 832 [some (.ref b), some (.ref a), some (.ref (a + 105)), some (.int (nI i))] [] (B G a C2)) : V G l R_law mn cL_law 4 ret room_1 (EL b L xs) QL sz k n 723 [some (.ref b), some (.ref a), some (.ref (a + 105)), some (.int (nI i))] [] (B G a C) := by
  obtain ⟨v, hc⟩ := op_mostTurns (G := G) (l := l) (sz := sz + k) (a := a) (xs (i + 1)) hJ
  refine V_aload_n dL_law_723 rfl ?_
  refine V_aload_n dL_law_724 rfl ?_
  refine V_iload_n dL_law_725 rfl ?_
  refine V_iconst (v := 1) dL_law_726 (by decide) ?_
  refine V_iadd dL_law_727 ?_
  refine V_sld (m := i + 1) dL_law_728 (nadd rfl (nlit (n := 1))) (by omega) hL rfl ?_
  refine V_callV dL_law_729 kL_110 ykX6_mostTurns (B_at (j := 0) (by decide) rfl) rfl hc rfl (Nat.le_of_ble_eq_true rfl) ⟨by decide, by decide, hk, hn⟩ (fun r h' q => ?_)
  obtain ⟨C1, rfl, rfl, hm⟩ := q
  show V G l R_law mn cL_law 4 ret room_1 (EL b L xs) QL sz k n 732 [some (.ref b), some (.ref a), some (.ref (a + 105)), some (.int (nI i))] [.int v] (B G a C1)
  refine V_aload_n dL_law_732 rfl ?_
  refine V_aload_n dL_law_733 rfl ?_
  refine V_iload_n dL_law_734 rfl ?_
  refine V_iconst (v := 1) dL_law_735 (by decide) ?_
  refine V_iadd dL_law_736 ?_
  refine V_sld (m := i + 1) dL_law_737 (nadd rfl (nlit (n := 1))) (by omega) hL rfl ?_
  refine V_callV dL_law_738 kL_113 ykX7_mostTurns (B_at (j := 105) (by decide) rfl) rfl hm rfl (Nat.le_of_ble_eq_true rfl) ⟨by decide, by decide, hk, hn⟩ (fun r h' q => ?_)
  obtain ⟨C2, rfl, rfl, hJ2⟩ := q
  show V G l R_law mn cL_law 4 ret room_1 (EL b L xs) QL sz k n 741 [some (.ref b), some (.ref a), some (.ref (a + 105)), some (.int (nI i))] [.int v, .int v] (B G a C2)
  exact V_icmp_eq dL_law_741 (fun _ => tail C2 hJ2) (fun z => absurd rfl z)
set_option maxHeartbeats 2000000 in
theorem lw_ifPlayed (hJ : JE C) (hi : i + 4 ≤ L) (hL : L < 2147483648) (hk : k ≤ 600000) (hn : n ≤ 7302250) (tail : ∀ C2, JE C2 → V G l R_law mn cL_law 4 ret room_1 (EL b L xs) QL sz k n 832 [some (.ref b), some (.ref a), some (.ref (a + 105)), some (.int (nI i))] [] (B G a C2)) : V G l R_law mn cL_law 4 ret room_1 (EL b L xs) QL sz k n 746 [some (.ref b), some (.ref a), some (.ref (a + 105)), some (.int (nI i))] [] (B G a C) := by
  obtain ⟨v, hc⟩ := op_ifPlayed (G := G) (l := l) (sz := sz + k) (a := a) (xs (i + 1)) (xs (i + 2)) (xs (i + 3)) hJ
  refine V_aload_n dL_law_746 rfl ?_
  refine V_aload_n dL_law_747 rfl ?_
  refine V_iload_n dL_law_748 rfl ?_
  refine V_iconst (v := 1) dL_law_749 (by decide) ?_
  refine V_iadd dL_law_750 ?_
  refine V_sld (m := i + 1) dL_law_751 (nadd rfl (nlit (n := 1))) (by omega) hL rfl ?_
  refine V_aload_n dL_law_752 rfl ?_
  refine V_iload_n dL_law_753 rfl ?_
  refine V_iconst (v := 2) dL_law_754 (by decide) ?_
  refine V_iadd dL_law_755 ?_
  refine V_sld (m := i + 2) dL_law_756 (nadd rfl (nlit (n := 2))) (by omega) hL rfl ?_
  refine V_aload_n dL_law_757 rfl ?_
  refine V_iload_n dL_law_758 rfl ?_
  refine V_iconst (v := 3) dL_law_759 (by decide) ?_
  refine V_iadd dL_law_760 ?_
  refine V_sld (m := i + 3) dL_law_761 (nadd rfl (nlit (n := 3))) (by omega) hL rfl ?_
  refine V_callV dL_law_762 kL_114 ykX6_ifPlayed (B_at (j := 0) (by decide) rfl) rfl hc rfl (Nat.le_of_ble_eq_true rfl) ⟨by decide, by decide, hk, hn⟩ (fun r h' q => ?_)
  obtain ⟨C1, rfl, rfl, hm⟩ := q
  show V G l R_law mn cL_law 4 ret room_1 (EL b L xs) QL sz k n 765 [some (.ref b), some (.ref a), some (.ref (a + 105)), some (.int (nI i))] [.int v] (B G a C1)
  refine V_aload_n dL_law_765 rfl ?_
  refine V_aload_n dL_law_766 rfl ?_
  refine V_iload_n dL_law_767 rfl ?_
  refine V_iconst (v := 1) dL_law_768 (by decide) ?_
  refine V_iadd dL_law_769 ?_
  refine V_sld (m := i + 1) dL_law_770 (nadd rfl (nlit (n := 1))) (by omega) hL rfl ?_
  refine V_aload_n dL_law_771 rfl ?_
  refine V_iload_n dL_law_772 rfl ?_
  refine V_iconst (v := 2) dL_law_773 (by decide) ?_
  refine V_iadd dL_law_774 ?_
  refine V_sld (m := i + 2) dL_law_775 (nadd rfl (nlit (n := 2))) (by omega) hL rfl ?_
  refine V_aload_n dL_law_776 rfl ?_
  refine V_iload_n dL_law_777 rfl ?_
  refine V_iconst (v := 3) dL_law_778 (by decide) ?_
  refine V_iadd dL_law_779 ?_
  refine V_sld (m := i + 3) dL_law_780 (nadd rfl (nlit (n := 3))) (by omega) hL rfl ?_
  refine V_callV dL_law_781 kL_117 ykX7_ifPlayed (B_at (j := 105) (by decide) rfl) rfl hm rfl (Nat.le_of_ble_eq_true rfl) ⟨by decide, by decide, hk, hn⟩ (fun r h' q => ?_)
  obtain ⟨C2, rfl, rfl, hJ2⟩ := q
  show V G l R_law mn cL_law 4 ret room_1 (EL b L xs) QL sz k n 784 [some (.ref b), some (.ref a), some (.ref (a + 105)), some (.int (nI i))] [.int v, .int v] (B G a C2)
  exact V_icmp_eq dL_law_784 (fun _ => tail C2 hJ2) (fun z => absurd rfl z)
set_option maxHeartbeats 2000000 in
theorem lw_fewestTurns (hJ : JE C) (hi : i + 4 ≤ L) (hL : L < 2147483648) (hk : k ≤ 600000) (hn : n ≤ 7302250) (tail : ∀ C2, JE C2 → V G l R_law mn cL_law 4 ret room_1 (EL b L xs) QL sz k n 832 [some (.ref b), some (.ref a), some (.ref (a + 105)), some (.int (nI i))] [] (B G a C2)) : V G l R_law mn cL_law 4 ret room_1 (EL b L xs) QL sz k n 789 [some (.ref b), some (.ref a), some (.ref (a + 105)), some (.int (nI i))] [] (B G a C) := by
  obtain ⟨v, hc⟩ := op_fewestTurns (G := G) (l := l) (sz := sz + k) (a := a) (xs (i + 1)) (xs (i + 2)) (xs (i + 3)) hJ
  refine V_aload_n dL_law_789 rfl ?_
  refine V_aload_n dL_law_790 rfl ?_
  refine V_iload_n dL_law_791 rfl ?_
  refine V_iconst (v := 1) dL_law_792 (by decide) ?_
  refine V_iadd dL_law_793 ?_
  refine V_sld (m := i + 1) dL_law_794 (nadd rfl (nlit (n := 1))) (by omega) hL rfl ?_
  refine V_aload_n dL_law_795 rfl ?_
  refine V_iload_n dL_law_796 rfl ?_
  refine V_iconst (v := 2) dL_law_797 (by decide) ?_
  refine V_iadd dL_law_798 ?_
  refine V_sld (m := i + 2) dL_law_799 (nadd rfl (nlit (n := 2))) (by omega) hL rfl ?_
  refine V_aload_n dL_law_800 rfl ?_
  refine V_iload_n dL_law_801 rfl ?_
  refine V_iconst (v := 3) dL_law_802 (by decide) ?_
  refine V_iadd dL_law_803 ?_
  refine V_sld (m := i + 3) dL_law_804 (nadd rfl (nlit (n := 3))) (by omega) hL rfl ?_
  refine V_callV dL_law_805 kL_118 ykX6_fewestTurns (B_at (j := 0) (by decide) rfl) rfl hc rfl (Nat.le_of_ble_eq_true rfl) ⟨by decide, by decide, hk, hn⟩ (fun r h' q => ?_)
  obtain ⟨C1, rfl, rfl, hm⟩ := q
  show V G l R_law mn cL_law 4 ret room_1 (EL b L xs) QL sz k n 808 [some (.ref b), some (.ref a), some (.ref (a + 105)), some (.int (nI i))] [.int v] (B G a C1)
  refine V_aload_n dL_law_808 rfl ?_
  refine V_aload_n dL_law_809 rfl ?_
  refine V_iload_n dL_law_810 rfl ?_
  refine V_iconst (v := 1) dL_law_811 (by decide) ?_
  refine V_iadd dL_law_812 ?_
  refine V_sld (m := i + 1) dL_law_813 (nadd rfl (nlit (n := 1))) (by omega) hL rfl ?_
  refine V_aload_n dL_law_814 rfl ?_
  refine V_iload_n dL_law_815 rfl ?_
  refine V_iconst (v := 2) dL_law_816 (by decide) ?_
  refine V_iadd dL_law_817 ?_
  refine V_sld (m := i + 2) dL_law_818 (nadd rfl (nlit (n := 2))) (by omega) hL rfl ?_
  refine V_aload_n dL_law_819 rfl ?_
  refine V_iload_n dL_law_820 rfl ?_
  refine V_iconst (v := 3) dL_law_821 (by decide) ?_
  refine V_iadd dL_law_822 ?_
  refine V_sld (m := i + 3) dL_law_823 (nadd rfl (nlit (n := 3))) (by omega) hL rfl ?_
  refine V_callV dL_law_824 kL_121 ykX7_fewestTurns (B_at (j := 105) (by decide) rfl) rfl hm rfl (Nat.le_of_ble_eq_true rfl) ⟨by decide, by decide, hk, hn⟩ (fun r h' q => ?_)
  obtain ⟨C2, rfl, rfl, hJ2⟩ := q
  show V G l R_law mn cL_law 4 ret room_1 (EL b L xs) QL sz k n 827 [some (.ref b), some (.ref a), some (.ref (a + 105)), some (.int (nI i))] [.int v, .int v] (B G a C2)
  exact V_icmp_eq dL_law_827 (fun _ => tail C2 hJ2) (fun z => absurd rfl z)
theorem sw_t (m : Nat) (h : m < 26) : ¬ (nI m).toInt < 0 ∧ ¬ (25 : Int) < (nI m).toInt ∧ ((nI m).toInt - 0).toNat = m := by
  rw [nI_toInt (by omega)]
  omega
set_option maxHeartbeats 4000000 in
theorem lw_body (hJ : JE C) (hi : i + 4 ≤ L) (hL : L < 2147483648) (hk : k ≤ 600000) (hn : n ≤ 7302250) (tail : ∀ C2, JE C2 → V G l R_law mn cL_law 4 ret room_1 (EL b L xs) QL sz k n 832 [some (.ref b), some (.ref a), some (.ref (a + 105)), some (.int (nI i))] [] (B G a C2)) : V G l R_law mn cL_law 4 ret room_1 (EL b L xs) QL sz k n 26 [some (.ref b), some (.ref a), some (.ref (a + 105)), some (.int (nI i))] [] (B G a C) := by
  refine V_aload_n dL_law_26 rfl ?_
  refine V_iload_n dL_law_27 rfl ?_
  refine V_sld (m := i) dL_law_28 rfl (by omega) hL rfl ?_
  refine V_bipush (v := 31) dL_law_29 (by decide) ?_
  refine V_iand dL_law_31 ?_
  obtain ⟨m, hm, e⟩ := and31 (xs i)
  rw [e]
  by_cases h26 : m < 26
  · obtain ⟨s1, s2, s3⟩ := sw_t m h26
    rcases (show m = 0 ∨ m = 1 ∨ m = 2 ∨ m = 3 ∨ m = 4 ∨ m = 5 ∨ m = 6 ∨ m = 7 ∨ m = 8 ∨ m = 9 ∨ m = 10 ∨ m = 11 ∨ m = 12 ∨ m = 13 ∨ m = 14 ∨ m = 15 ∨ m = 16 ∨ m = 17 ∨ m = 18 ∨ m = 19 ∨ m = 20 ∨ m = 21 ∨ m = 22 ∨ m = 23 ∨ m = 24 ∨ m = 25 by omega) with z | z | z | z | z | z | z | z | z | z | z | z | z | z | z | z | z | z | z | z | z | z | z | z | z | z <;> subst z
    · exact V_tIn (off := 120) (tg := 152) dL_law_32 s1 s2 (by rw [s3]; rfl) rfl (lw_step hJ hi hL hk hn tail)
    · exact V_tIn (off := 153) (tg := 185) dL_law_32 s1 s2 (by rw [s3]; rfl) rfl (lw_record hJ hi hL hk hn tail)
    · exact V_tIn (off := 166) (tg := 198) dL_law_32 s1 s2 (by rw [s3]; rfl) rfl (lw_end hJ hi hL hk hn tail)
    · exact V_tIn (off := 179) (tg := 211) dL_law_32 s1 s2 (by rw [s3]; rfl) rfl (lw_dropTry hJ hi hL hk hn tail)
    · exact V_tIn (off := 202) (tg := 234) dL_law_32 s1 s2 (by rw [s3]; rfl) rfl (lw_generalise hJ hi hL hk hn tail)
    · exact V_tIn (off := 235) (tg := 267) dL_law_32 s1 s2 (by rw [s3]; rfl) rfl (lw_fold hJ hi hL hk hn tail)
    · exact V_tIn (off := 258) (tg := 290) dL_law_32 s1 s2 (by rw [s3]; rfl) rfl (lw_setTurns hJ hi hL hk hn tail)
    · exact V_tIn (off := 291) (tg := 323) dL_law_32 s1 s2 (by rw [s3]; rfl) rfl (lw_dropLoop hJ hi hL hk hn tail)
    · exact V_tIn (off := 314) (tg := 346) dL_law_32 s1 s2 (by rw [s3]; rfl) rfl (lw_play hJ hi hL hk hn tail)
    · exact V_tIn (off := 337) (tg := 369) dL_law_32 s1 s2 (by rw [s3]; rfl) rfl (lw_type hJ hi hL hk hn tail)
    · exact V_tIn (off := 362) (tg := 394) dL_law_32 s1 s2 (by rw [s3]; rfl) rfl (lw_clearText hJ hi hL hk hn tail)
    · exact V_tIn (off := 375) (tg := 407) dL_law_32 s1 s2 (by rw [s3]; rfl) rfl (lw_perform hJ hi hL hk hn tail)
    · exact V_tIn (off := 388) (tg := 420) dL_law_32 s1 s2 (by rw [s3]; rfl) rfl (lw_undo hJ hi hL hk hn tail)
    · exact V_tIn (off := 401) (tg := 433) dL_law_32 s1 s2 (by rw [s3]; rfl) rfl (lw_keep hJ hi hL hk hn tail)
    · exact V_tIn (off := 414) (tg := 446) dL_law_32 s1 s2 (by rw [s3]; rfl) rfl (lw_restore hJ hi hL hk hn tail)
    · exact V_tIn (off := 427) (tg := 459) dL_law_32 s1 s2 (by rw [s3]; rfl) rfl (lw_cell hJ hi hL hk hn tail)
    · exact V_tIn (off := 450) (tg := 482) dL_law_32 s1 s2 (by rw [s3]; rfl) rfl (lw_ofTry hJ hi hL hk hn tail)
    · exact V_tIn (off := 493) (tg := 525) dL_law_32 s1 s2 (by rw [s3]; rfl) rfl (lw_ofLoop hJ hi hL hk hn tail)
    · exact V_tIn (off := 536) (tg := 568) dL_law_32 s1 s2 (by rw [s3]; rfl) rfl (lw_length hJ hi hL hk hn tail)
    · exact V_tIn (off := 569) (tg := 601) dL_law_32 s1 s2 (by rw [s3]; rfl) rfl (lw_total hJ hi hL hk hn tail)
    · exact V_tIn (off := 592) (tg := 624) dL_law_32 s1 s2 (by rw [s3]; rfl) rfl (lw_alike hJ hi hL hk hn tail)
    · exact V_tIn (off := 635) (tg := 667) dL_law_32 s1 s2 (by rw [s3]; rfl) rfl (lw_bestPair hJ hi hL hk hn tail)
    · exact V_tIn (off := 658) (tg := 690) dL_law_32 s1 s2 (by rw [s3]; rfl) rfl (lw_fits hJ hi hL hk hn tail)
    · exact V_tIn (off := 691) (tg := 723) dL_law_32 s1 s2 (by rw [s3]; rfl) rfl (lw_mostTurns hJ hi hL hk hn tail)
    · exact V_tIn (off := 714) (tg := 746) dL_law_32 s1 s2 (by rw [s3]; rfl) rfl (lw_ifPlayed hJ hi hL hk hn tail)
    · exact V_tIn (off := 757) (tg := 789) dL_law_32 s1 s2 (by rw [s3]; rfl) rfl (lw_fewestTurns hJ hi hL hk hn tail)
  · refine V_tOut (tg := 832) dL_law_32 (Or.inr (by rw [nI_toInt (by omega)]; omega)) rfl (tail C hJ)
theorem lw_loop (hL : L ≤ 2048) (hk : k ≤ 600000) (hn : n ≤ 7302250) : ∀ (m i : Nat) (C : CT), L < i + m → i ≤ L + 4 → JE C → V G l R_law mn cL_law 4 ret room_1 (EL b L xs) QL sz k n 18 [some (.ref b), some (.ref a), some (.ref (a + 105)), some (.int (nI i))] [] (B G a C) := by
  intro m
  induction m with
  | zero =>
    intro i C hm hi hJ
    refine V_iload_n dL_law_18 rfl ?_
    refine V_aload_n dL_law_19 rfl ?_
    refine V_slen dL_law_20 ?_
    refine V_iconst (v := 4) dL_law_21 (by decide) ?_
    refine V_isub dL_law_22 ?_
    refine V_icmp_gt dL_law_23 (fun _ => ?_) (fun z => absurd ((lw_cmp (by omega) (by omega)).mpr (by omega)) z)
    refine V_iconst (v := 1) dL_law_838 (by decide) ?_
    exact V_lret dL_law_839 hk hn
  | succ m ih =>
    intro i C hm hi hJ
    refine V_iload_n dL_law_18 rfl ?_
    refine V_aload_n dL_law_19 rfl ?_
    refine V_slen dL_law_20 ?_
    refine V_iconst (v := 4) dL_law_21 (by decide) ?_
    refine V_isub dL_law_22 ?_
    refine V_icmp_gt dL_law_23 (fun _ => ?_) (fun z => ?_)
    · refine V_iconst (v := 1) dL_law_838 (by decide) ?_
      exact V_lret dL_law_839 hk hn
    · have h4 : i + 4 ≤ L := by
        have := mt (lw_cmp (i := i) (L := L) (by omega) (by omega)).mpr z
        omega
      refine lw_body hJ h4 (by omega) hk hn (fun C2 hJ2 => ?_)
      refine V_iinc dL_law_832 rfl (show nI i + Int32.ofInt 4 = nI (i + 4) from nadd rfl (nlit (n := 4))) (by decide) (by dsimp only [List.set] <;> rfl) ?_
      refine V_goto dL_law_835 ?_
      exact ih (i + 4) C2 (by omega) (by omega) hJ2
end LAWW
