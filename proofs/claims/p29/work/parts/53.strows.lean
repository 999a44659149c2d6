/-! Rows on the String constant of the verbs, and String.indexOf(int) on it. -/
section SROWS
variable {G : GT} {l : Launch} {own mn : String} {cc : ByteArray} {mL : Nat} {ret : Option FieldType} {R : Room} {E : ET} {Qc : QT} {sz k n pc nx tg : Nat} {L : List (Option Value)} {st : List Value} {h : Hp}
abbrev sK (G : GT) : Nat := G.2.2.2.2.1
abbrev sV (G : GT) : Nat := G.2.2.2.2.2
theorem V_ldcS (hd : Dc cc pc (.ldc 68) 2 nx) (hown : own = "TryLoops$Text")
    (kk : V G l own mn cc mL ret R E Qc sz k n nx L (.ref (sK G) :: st) h) : V G l own mn cc mL ret R E Qc sz k n pc L st h := by
  obtain ⟨hd, rfl⟩ := hd
  intro p e s m args below meth c A H locs ls C hE hF hz hh hS hA hl
  exact va_ldcS C.1 C.2.1 C.2.2.2.1 (by rw [hown]; exact hF.1.1) hd (kk p e s m args below meth c A H locs ls C hE hF hz hh hS hA hl)
theorem gcs38 : Cond.fieldLink "java/lang/String" 38 "java/lang/String" "COMPACT_STRINGS" "Z" ∈ lw_gtb := gm 616 (by decide +kernel) rfl
theorem gsc15 : Cond.fieldLink "java/lang/String" 15 "java/lang/String" "coder" "B" ∈ lw_gtb := gm 711 (by decide +kernel) rfl
theorem gsv9 : Cond.fieldLink "java/lang/String" 9 "java/lang/String" "value" "[B" ∈ lw_gtb := gm 712 (by decide +kernel) rfl
theorem V_gcs (hd : Dc cc pc (.getstatic 38) 3 nx) (hown : own = "java/lang/String")
    (kk : V G l own mn cc mL ret R E Qc sz k n nx L (.int 1 :: st) h) : V G l own mn cc mL ret R E Qc sz k n pc L st h := by
  obtain ⟨hd, rfl⟩ := hd
  intro p e s m args below meth c A H locs ls C hE hF hz hh hS hA hl
  exact va_gets C.1 C.2.1 hF.2.1 hS C.2.2.2.1 (C.2.2.2.2.2.2.1 _ (by rw [hown]; exact gcs38)) (fun _ q => q) hd (kk p e s m args below meth c A H locs ls C hE hF hz hh hS hA hl)
theorem V_gcod (hd : Dc cc pc (.getfield 15) 3 nx) (hown : own = "java/lang/String")
    (kk : V G l own mn cc mL ret R E Qc sz k n nx L (.int 0 :: st) h) : V G l own mn cc mL ret R E Qc sz k n pc L (.ref (sK G) :: st) h := by
  obtain ⟨hd, rfl⟩ := hd
  intro p e s m args below meth c A H locs ls C hE hF hz hh hS hA hl
  exact vk_getf C.1 C.2.1 (hF.2.2.1.1 0 (by decide)).2.1 hS C.2.2.2.1 (C.2.2.2.2.2.2.1 _ (by rw [hown]; exact gsc15)) (fun _ q => q) hd (kk p e s m args below meth c A H locs ls C hE hF hz hh hS hA hl)
theorem V_gval (hd : Dc cc pc (.getfield 9) 3 nx) (hown : own = "java/lang/String")
    (kk : V G l own mn cc mL ret R E Qc sz k n nx L (.ref (sV G) :: st) h) : V G l own mn cc mL ret R E Qc sz k n pc L (.ref (sK G) :: st) h := by
  obtain ⟨hd, rfl⟩ := hd
  intro p e s m args below meth c A H locs ls C hE hF hz hh hS hA hl
  exact vk_getf C.1 C.2.1 (hF.2.2.1.1 0 (by decide)).2.2.1 hS C.2.2.2.1 (C.2.2.2.2.2.2.1 _ (by rw [hown]; exact gsv9)) (fun _ q => q) hd (kk p e s m args below meth c A H locs ls C hE hF hz hh hS hA hl)
def vrb (j : Nat) : Int32 := ([103, 119, 97, 99, 115, 116] : List Int32).getD j 0
theorem V_bldV {m : Nat} {i : Int32} (hd : Dc cc pc .baload 1 nx) (hi : i = nI m) (hm : m < 6)
    (kk : V G l own mn cc mL ret R E Qc sz k n nx L (.int (vrb m) :: st) h) : V G l own mn cc mL ret R E Qc sz k n pc L (.int i :: .ref (sV G) :: st) h := by
  obtain ⟨hd, rfl⟩ := hd
  subst hi
  intro p e s m' args below meth c A H locs ls C hE hF hz hh hS hA hl
  exact va_tb C.1 C.2.1 (hF.2.2.1.1 0 (by decide)).2.2.2 hS (show vp_in (nI m) 6 from vp_in_nI hm (by omega)) (v := .int (vrb m)) (by rw [nI_cl (by omega)]; rfl) hd (kk p e s m' args below meth c A H locs ls C hE hF hz hh hS hA hl)
theorem V_i2b {x0 y0 : Int32} (hd : Dc cc pc .i2b 1 nx) (hv : x0.toInt8.toInt32 = y0)
    (kk : V G l own mn cc mL ret R E Qc sz k n nx L (.int y0 :: st) h) : V G l own mn cc mL ret R E Qc sz k n pc L (.int x0 :: st) h := by
  obtain ⟨hd, rfl⟩ := hd
  intro p e s m args below meth c A H locs ls C hE hF hz hh hS hA hl
  exact lv_i2b C.1 C.2.1 hd hv (kk p e s m args below meth c A H locs ls C hE hF hz hh hS hA hl)
theorem V_lenV (hd : Dc cc pc .arraylength 1 nx)
    (kk : V G l own mn cc mL ret R E Qc sz k n nx L (.int 6 :: st) h) : V G l own mn cc mL ret R E Qc sz k n pc L (.ref (sV G) :: st) h := by
  obtain ⟨hd, rfl⟩ := hd
  intro p e s m args below meth c A H locs ls C hE hF hz hh hS hA hl
  exact va_tlen C.1 C.2.1 (hF.2.2.1.1 0 (by decide)).2.2.2 hS (v := 6) rfl hd (kk p e s m args below meth c A H locs ls C hE hF hz hh hS hA hl)
theorem V_ishr {x0 y0 : Int32} (hd : Dc cc pc .ishr 1 nx)
    (kk : V G l own mn cc mL ret R E Qc sz k n nx L (.int (x0 >>> (y0 &&& 31)) :: st) h) : V G l own mn cc mL ret R E Qc sz k n pc L (.int y0 :: .int x0 :: st) h := by
  obtain ⟨hd, rfl⟩ := hd
  intro p e s m args below meth c A H locs ls C hE hF hz hh hS hA hl
  exact lv_ishr C.1 C.2.1 hd (kk p e s m args below meth c A H locs ls C hE hF hz hh hS hA hl)
theorem V_callTg {y : MethodName} {yc : ByteArray} {ymL d' idx : Nat} {yret : Option FieldType} {As rest stk : List Value} {Qf : Option Value → Hp → Prop} (hd : Dc cc pc (.invokevirtual idx) 3 nx) (hk : LkV own idx y) (hy : Yk y yc ymL yret As.length) (hyc : y.cls = "java/lang/String")
    (hm : Ct G l y yc ymL yret d' 0 0 (sz + k) (.ref (sK G) :: As) h Qf) (hst : stk = As.reverse ++ .ref (sK G) :: rest) (h8 : (rest.map fun v => v.category).sum ≤ 8) (hR : d' + 1 ≤ R.frames ∧ 8 + (ymL + 11) + 31 * d' ≤ R.locals ∧ k + 0 ≤ R.cells ∧ n + 0 ≤ R.slots)
    (kk : ∀ (r : Option Value) (h' : Hp), Qf r h' → V G l own mn cc mL ret R E Qc sz (k + 0) (n + 0) nx L (r.toList ++ rest) h') : V G l own mn cc mL ret R E Qc sz k n pc L stk h := by
  obtain ⟨hd, hn⟩ := hd
  obtain ⟨hk0, hk1, hk2⟩ := hk
  intro p e s m args below meth c A H locs ls C hE hF hz hh hS hA hl
  have tb := C.2.2.2.2.2.2.1
  have hp : PreV s H y.cls (sK G) (va_Pc (.ref (sK G) :: As) (hPre G (sz + k) h)) As := ⟨hPre.blind, by rw [hyc]; exact vk_recv hF.2.2.1 (i := 0) (by decide) hS, fun U hU hW => ⟨rfl, pre_ok C hF hz hh hS hA U hU hW⟩⟩
  refine V_end C hE hF hz hh hS hA hl ?_ hn kk
  rcases hk0 with hk0 | ⟨host, hk0⟩
  · exact va_runV (As := As) (rest := rest) ⟨C.1, C.2.1, C.2.2.1, C.2.2.2.1, tb⟩ hm ⟨callB_of As.length tb (good_wsY hy.1) rfl rfl rfl (tb _ hy.2.1) (tb _ hk0) hy.2.2 ⟨hR.1, hR.2.1⟩, tb _ hk1, tb _ hk2⟩ hp rfl rfl hl.1 hst (lv_room h8) hd hR.2.2
  · exact va_runVN (As := As) (rest := rest) ⟨C.1, C.2.1, C.2.2.1, C.2.2.2.1, tb⟩ hm ⟨va_cnB As.length tb (good_wsY hy.1) rfl rfl rfl (hF.2.2.2 _ hk0) (tb _ hy.2.1) hy.2.2 ⟨hR.1, hR.2.1⟩, tb _ hk1, tb _ hk2⟩ hp rfl rfl hl.1 hst (lv_room h8) hd hR.2.2
theorem V_callT {y : MethodName} {yc : ByteArray} {ymL d' idx : Nat} {yret : Option FieldType} {As rest stk : List Value} {v : Value} (hd : Dc cc pc (.invokevirtual idx) 3 nx) (hk : LkV own idx y) (hy : Yk y yc ymL yret As.length) (hyc : y.cls = "java/lang/String")
    (hm : Ct G l y yc ymL yret d' 0 0 (sz + k) (.ref (sK G) :: As) h (Rd v h)) (hst : stk = As.reverse ++ .ref (sK G) :: rest) (h8 : (rest.map fun v => v.category).sum ≤ 8) (hR : d' + 1 ≤ R.frames ∧ 8 + (ymL + 11) + 31 * d' ≤ R.locals ∧ k + 0 ≤ R.cells ∧ n + 0 ≤ R.slots)
    (kk : V G l own mn cc mL ret R E Qc sz k n nx L (v :: rest) h) : V G l own mn cc mL ret R E Qc sz k n pc L stk h :=
  V_callTg hd hk hy hyc hm hst h8 hR (fun r h' q => by obtain ⟨rfl, rfl⟩ := q; exact kk)
end SROWS
theorem gmax_J1_92 : Cond.methodLink RJ1 92 Lib.Math.max.name ∈ lw_gtb := gm 632 (by decide +kernel) rfl
theorem gmax_J1_38 : Cond.methodLink RJ1 38 Lib.Math.min.name ∈ lw_gtb := gm 633 (by decide +kernel) rfl
