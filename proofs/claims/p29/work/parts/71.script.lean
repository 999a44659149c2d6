/-! The script: a method that reads it. -/
def EX (b L : Nat) (xs : Nat → Int32) : ET := fun s A _ => va_X b L xs s s.heap ∧ b < s.heap.size ∧ ¬ A b
def EL (b L : Nat) (xs : Nat → Int32) : ET := fun s A args => va_X b L xs s s.heap ∧ b < s.heap.size ∧ ¬ A b ∧ args = #[.ref b] ∧ ∀ q, A q → s.heap.size ≤ q
def hPreX (G : GT) (sz : Nat) (h : Hp) (b L : Nat) (xs : Nat → Int32) (U : State) : Prop := hPre G sz h U ∧ va_X b L xs U U.heap ∧ b < sz ∧ h b = none
def CtX (G : GT) (l : Launch) (y : MethodName) (cc : ByteArray) (mL : Nat) (ret : Option FieldType) (d sz : Nat) (b L : Nat) (xs : Nat → Int32) (av : List Value) (h : Hp) (Qf : Option Value → Hp → Prop) : Prop :=
  Met l y (wsY y cc mL ret) (rmd d 0 0) (va_Pc av (hPreX G sz h b L xs)) (Qpost G Qf sz 0 (Ax h sz)) 0 0 (Ax h sz)
theorem CtX.of {G : GT} {l : Launch} {y : MethodName} {cc : ByteArray} {mL : Nat} {ret : Option FieldType} {d sz b L : Nat} {xs : Nat → Int32} {av : List Value} {h : Hp} {Qf : Option Value → Hp → Prop} {own mn : String} {L0 : List (Option Value)} (hy : plainName y.cls = true) (ho : y.cls = own) (hmn : y.name = mn) (hav : (av.all fun v => v.category == 1) = true) (hn : av.length ≤ mL) (hL0 : av.map some ++ List.replicate (mL - av.length) none = L0)
    (body : V G l own mn cc mL ret (rmd d 0 0) (EX b L xs) (Qm G Qf sz 0 0) sz 0 0 0 L0 [] h) : CtX G l y cc mL ret d sz b L xs av h Qf := by
  subst ho; subst hmn; subst hL0
  refine Met.ofW (cc := cc) (maxL := mL) (ret := ret) hy rfl ?_
  intro p e s m args below meth c s₁ B hml hv
  obtain ⟨rfl, ⟨hsz, hh, hK, hSF⟩, hX, hb, hno⟩ := hv
  have hts := atoms_spec (ws := wsY y cc mL ret) B.pre
  rw [lg_entry_eq]
  have hav' : ∀ v ∈ av, v.category = 1 := fun v hv => by simpa using List.all_eq_true.mp hav v hv
  refine body p e s m av.toArray below meth c (Ax h sz) s.heap [] _ ⟨B.exec, B.bytes, hml, findClass_of_methodNamed B.named, B.returns, B.notSynchronized, fun w hw => hts w (List.mem_cons_of_mem _ hw), hK, (name_of_methodNamed B.named B.method).1⟩ ⟨hX, by omega, ?_⟩ hSF ⟨hsz, hsz⟩ hh.self va_S.rf (fun q hq => Or.inr (by rw [← hsz]; exact hq)) (entryL av mL hav' hn)
  rintro (⟨e, he⟩ | he)
  · rw [hno] at he
    cases he
  · omega
section ROWSX
variable {G : GT} {l : Launch} {own mn : String} {cc : ByteArray} {mL : Nat} {rt : Option FieldType} {R : Room} {Qc : QT} {sz k n pc nx tg : Nat} {Ls : List (Option Value)} {st : List Value} {h : Hp} {b L : Nat} {xs : Nat → Int32}
theorem V_sld {m : Nat} {i v : Int32} (hd : Dc cc pc .iaload 1 nx) (hi : i = nI m) (hm : m < L) (hL : L < 2147483648) (hv : xs m = v)
    (kk : V G l own mn cc mL rt R (EX b L xs) Qc sz k n nx Ls (.int v :: st) h) : V G l own mn cc mL rt R (EX b L xs) Qc sz k n pc Ls (.int i :: .ref b :: st) h := by
  obtain ⟨hd, rfl⟩ := hd
  subst hi
  subst hv
  intro p e s mt args below meth c A H locs ls C hE hF hz hh hS hA hl
  refine va_sld C.1 C.2.1 hE.1 hE.2.1 hE.2.2 hS (vp_in_nI hm hL) hd ?_
  rw [nI_cl (by omega)]
  exact kk p e s mt args below meth c A H locs ls C hE hF hz hh hS hA hl
theorem V_slen (hd : Dc cc pc .arraylength 1 nx)
    (kk : V G l own mn cc mL rt R (EX b L xs) Qc sz k n nx Ls (.int (nI L) :: st) h) : V G l own mn cc mL rt R (EX b L xs) Qc sz k n pc Ls (.ref b :: st) h := by
  obtain ⟨hd, rfl⟩ := hd
  intro p e s mt args below meth c A H locs ls C hE hF hz hh hS hA hl
  exact va_slen C.1 C.2.1 hE.1 hE.2.1 hE.2.2 hS hd (kk p e s mt args below meth c A H locs ls C hE hF hz hh hS hA hl)
theorem hPreX.blind {av : List Value} : FrameBlind (va_Pc av (hPreX G sz h b L xs)) := by
  intro a U g mk hq
  obtain ⟨q0, ⟨q1, q2, q3, q4⟩, q5, q6, q7⟩ := hq
  exact ⟨q0, ⟨q1, q2, va_K.moved (u := U) (U := U.calling g mk a) (Vm.Alike.refl U.vm) q3, q4.calling⟩, va_X.moved (u := U) (U := U.calling g mk a) (Vm.Alike.refl U.vm) q5, q6, q7⟩
theorem V_callSX {y : MethodName} {yc : ByteArray} {ymL d' idx : Nat} {yret : Option FieldType} {As rest stk : List Value} {Qf : Option Value → Hp → Prop} (hd : Dc cc pc (.invokestatic idx) 3 nx) (hk : LkS own idx y) (hy : Yk y yc ymL yret As.length)
    (hm : CtX G l y yc ymL yret d' (sz + k) b L xs As h Qf) (hst : stk = As.reverse ++ rest) (h8 : (rest.map fun v => v.category).sum ≤ 8) (hR : d' + 1 ≤ R.frames ∧ 8 + (ymL + 11) + 31 * d' ≤ R.locals ∧ k + 0 ≤ R.cells ∧ n + 0 ≤ R.slots)
    (kk : ∀ (r : Option Value) (h' : Hp), Qf r h' → V G l own mn cc mL rt R (EL b L xs) Qc sz k n nx Ls (r.toList ++ rest) h') : V G l own mn cc mL rt R (EL b L xs) Qc sz k n pc Ls stk h := by
  obtain ⟨hd, hn⟩ := hd
  obtain ⟨hk0, hk1⟩ := hk
  intro p e s m args below meth c A H locs ls C hE hF hz hh hS hA hl
  have tb := C.2.2.2.2.2.2.1
  obtain ⟨x1, x2, x3, x4, x5⟩ := id hE
  have hno : h b = none := by
    cases hb : h b with
    | none => rfl
    | some e => exact absurd (hh.in hb) x3
  have hp : PreS s H (va_Pc As (hPreX G (sz + k) h b L xs)) As := ⟨hPreX.blind, fun U hU hW => ⟨rfl, pre_ok C hF hz hh hS hA U hU hW, by
    rw [hU]
    exact va_X.moved hW.alike (x1.kept (hS.2.1 b x2 x3)), by omega, hno⟩⟩
  refine V_end (mc' := 0) (ms' := 0) C hE hF hz hh hS hA hl ?_ hn kk
  rcases hk0 with hk0 | ⟨host, hk0⟩
  · exact va_runS (As := As) (rest := rest) ⟨C.1, C.2.1, C.2.2.1, C.2.2.2.1, tb⟩ hm ⟨callB_of As.length tb (good_wsY hy.1) rfl rfl rfl (tb _ hy.2.1) (tb _ hk0) hy.2.2 ⟨hR.1, hR.2.1⟩, tb _ hk1⟩ hp rfl rfl hl.1 hst (lv_room h8) hd hR.2.2
  · exact va_runSN (As := As) (rest := rest) ⟨C.1, C.2.1, C.2.2.1, C.2.2.2.1, tb⟩ hm ⟨va_cnB As.length tb (good_wsY hy.1) rfl rfl rfl (hF.2.2.2 _ hk0) (tb _ hy.2.1) hy.2.2 ⟨hR.1, hR.2.1⟩, tb _ hk1, trivial⟩ hp rfl rfl hl.1 hst (lv_room h8) hd hR.2.2
end ROWSX
theorem andM (x0 : Int32) : ∃ k, k < 2147483648 ∧ x0 &&& 2147483647 = nI k := by
  have e : ∀ y : Int32, y = nI y.toUInt32.toNat := by
    intro y
    apply Int32.toBitVec_inj.mp
    simp [nI, Int32.ofNat]
  refine ⟨(x0 &&& 2147483647).toUInt32.toNat, ?_, ?_⟩
  · have h : (x0 &&& 2147483647).toUInt32.toNat = x0.toUInt32.toNat &&& 2147483647 := by
      rw [Int32.toUInt32_and, UInt32.toNat_and]
      rfl
    rw [h]
    exact Nat.lt_of_le_of_lt Nat.and_le_right (by decide)
  · exact e _
/-- a number that isn't below 0 -/
def Rcl (h : Hp) : Option Value → Hp → Prop := fun r h' => ∃ k, k < 2147483648 ∧ r = some (.int (nI k)) ∧ h' = h
section LAW
variable {G : GT} {l : Launch} {sz b L : Nat} {xs : Nat → Int32} {h : Hp}
theorem tL_cell {i : Nat} (hL : L ≤ 260) (hi : i < 1000) : CtX G l yL_cell cL_cell 2 (some .int) 0 sz b L xs [.ref b, .int (nI i)] h (Rcl h) := by
  refine CtX.of (own := RL) (mn := "cell") (L0 := [some (.ref b), some (.int (nI i))]) (by decide +kernel) rfl rfl rfl (Nat.le_of_ble_eq_true rfl) rfl ?_
  have fin : ∀ x : Int32, V G l RL "cell" cL_cell 2 (some .int) (rmd 0 0 0) (EX b L xs) (Qm G (Rcl h) sz 0 0) sz 0 0 23 [some (.ref b), some (.int (nI i))] [.int x] h := by
    intro x
    refine V_ldc (v := 2147483647) dL_cell_23 (gm 307 (by decide +kernel) rfl) ?_
    refine V_iand dL_cell_25 ?_
    obtain ⟨k, k1, k2⟩ := andM x
    rw [k2]
    refine V_iret dL_cell_26 rfl rfl rfl ?_
    exact ⟨k, k1, rfl, rfl⟩
  refine V_iload_n dL_cell_0 rfl ?_
  refine V_aload_n dL_cell_1 rfl ?_
  refine V_slen dL_cell_2 ?_
  by_cases hc : i < L
  · refine V_icmp_ge dL_cell_3 (fun z => absurd z (fun z => absurd ((cle (by repeat (first | with_reducible rfl | with_reducible exact nlit | with_reducible apply nadd | with_reducible apply nmul | with_reducible apply nsub | with_reducible assumption | omega)) (by repeat (first | with_reducible rfl | with_reducible exact nlit | with_reducible apply nadd | with_reducible apply nmul | with_reducible apply nsub | with_reducible assumption | omega)) (by omega) (by omega)).mp z) (by omega))) (fun _ => ?_)
    refine V_aload_n dL_cell_6 rfl ?_
    refine V_iload_n dL_cell_7 rfl ?_
    refine V_sld (m := i) dL_cell_8 rfl hc (by omega) rfl ?_
    refine V_goto dL_cell_9 ?_
    exact fin _
  · refine V_icmp_ge dL_cell_3 (fun _ => ?_) (fun z => absurd ((cle (by repeat (first | with_reducible rfl | with_reducible exact nlit | with_reducible apply nadd | with_reducible apply nmul | with_reducible apply nsub | with_reducible assumption | omega)) (by repeat (first | with_reducible rfl | with_reducible exact nlit | with_reducible apply nadd | with_reducible apply nmul | with_reducible apply nsub | with_reducible assumption | omega)) (by omega) (by omega)).mpr (by omega)) z)
    refine V_ldc (v := 1986661051) dL_cell_12 (gm 305 (by decide +kernel) rfl) ?_
    refine V_iload_n dL_cell_14 rfl ?_
    refine V_sipush (v := 257) dL_cell_15 (by decide) ?_
    refine V_iadd dL_cell_18 ?_
    refine V_imul dL_cell_19 ?_
    refine V_ldc (v := 50021) dL_cell_20 (gm 306 (by decide +kernel) rfl) ?_
    refine V_iadd dL_cell_22 ?_
    exact fin _
end LAW
