/-! Rules for what constructors do: an object under construction at cell j, and m finished cells behind it. -/
def ov (h : Hp) (a j m : Nat) (f : Nat → va_E) : Hp := fun q => if a + j ≤ q ∧ q < a + j + m then some (f (q - a)) else h q
def NF (h : Hp) (a j m : Nat) (f : Nat → va_E) (e : va_E) : Hp := hset (ov h a (j + 1) m f) (a + j) e
def Rov (h : Hp) (a j m : Nat) (f : Nat → va_E) : Option Value → Hp → Prop := fun r h' => r = none ∧ h' = ov h a j m f
theorem NF_0 {h : Hp} {a j : Nat} {f : Nat → va_E} {e : va_E} (he : h (a + j) = some e) : h = NF h a j 0 f e := by
  funext q
  unfold NF ov
  by_cases hq : q = a + j
  · subst hq
    rw [hset_s, he]
  · rw [hset_n hq, if_neg (by omega)]
theorem NF_add {h : Hp} {a j m : Nat} {f : Nat → va_E} {e x0 : va_E} (hx : f (j + 1 + m) = x0) : hset (NF h a j m f e) (a + (j + 1 + m)) x0 = NF h a j (m + 1) f e := by
  subst hx
  funext q
  unfold NF ov
  by_cases h1 : q = a + (j + 1 + m)
  · subst h1
    rw [hset_s, hset_n (by omega), if_pos (by omega)]
    congr 2
    omega
  · rw [hset_n h1]
    by_cases h2 : q = a + j
    · subst h2
      rw [hset_s, hset_s]
    · rw [hset_n h2, hset_n h2]
      by_cases h3 : a + (j + 1) ≤ q ∧ q < a + (j + 1) + m
      · rw [if_pos h3, if_pos (by omega)]
      · rw [if_neg h3, if_neg (by omega)]
theorem NF_call {h : Hp} {a j m m' : Nat} {f : Nat → va_E} {e d : va_E} (hm : 0 < m') : ov (hset (NF h a j m f e) (a + (j + 1 + m)) d) a (j + 1 + m) m' f = NF h a j (m + m') f e := by
  funext q
  unfold NF ov
  by_cases h1 : a + (j + 1 + m) ≤ q ∧ q < a + (j + 1 + m) + m'
  · rw [if_pos h1, hset_n (by omega), if_pos (by omega)]
  · rw [if_neg h1, hset_n (by omega)]
    by_cases h2 : q = a + j
    · subst h2
      rw [hset_s, hset_s]
    · rw [hset_n h2, hset_n h2]
      by_cases h3 : a + (j + 1) ≤ q ∧ q < a + (j + 1) + m
      · rw [if_pos h3, if_pos (by omega)]
      · rw [if_neg h3, if_neg (by omega)]
theorem NF_put {h : Hp} {a j m : Nat} {f : Nat → va_E} {e e' : va_E} : hset (NF h a j m f e) (a + j) e' = NF h a j m f e' := by
  funext q
  unfold NF
  by_cases hq : q = a + j
  · subst hq
    rw [hset_s, hset_s]
  · rw [hset_n hq, hset_n hq, hset_n hq]
theorem NF_at {h : Hp} {a j m : Nat} {f : Nat → va_E} {e : va_E} : NF h a j m f e (a + j) = some e := hset_s
theorem NF_fin {h : Hp} {a j m M : Nat} {f : Nat → va_E} {e : va_E} (he : f j = e) (hM : M = m + 1) : NF h a j m f e = ov h a j M f := by
  subst hM
  subst he
  funext q
  unfold NF ov
  by_cases hq : q = a + j
  · subst hq
    rw [hset_s, if_pos (by omega)]
    congr 2
    omega
  · rw [hset_n hq]
    by_cases h3 : a + (j + 1) ≤ q ∧ q < a + (j + 1) + m
    · rw [if_pos h3, if_pos (by omega)]
    · rw [if_neg h3, if_neg (by omega)]
theorem Rov_i {h h1 : Hp} {a j M : Nat} {f : Nat → va_E} (e : h1 = ov h a j M f) : Rov h a j M f none h1 := ⟨rfl, e⟩
def dfV0 : List Value := [.null, .int 0]
def dfV1 : List Value := [.int 0, .int 0, .int 0]
def dfV2 : List Value := [.null, .int 0]
def dfV3 : List Value := [.int 0, .null, .null, .null, .null, .null, .int 0]
def dfV4 : List Value := [.null, .null, .null, .int 0, .int 0, .int 0, .int 0, .int 0]
def dfV5 : List Value := [.null, .int 0, .int 0, .null]
def dfV6 : List Value := [.null, .null, .null, .int 0, .null, .null, .null, .null]
theorem dfV0_ok : ∀ j, j < 2 → defaultValue (tyX0 j) = vp_V dfV0 j := by
  intro j hj
  match j, hj with
  | 0, _ => rfl
  | 1, _ => rfl
  | n + 2, h => exact absurd h (by omega)
theorem dfV1_ok : ∀ j, j < 3 → defaultValue (tyX1 j) = vp_V dfV1 j := by
  intro j hj
  match j, hj with
  | 0, _ => rfl
  | 1, _ => rfl
  | 2, _ => rfl
  | n + 3, h => exact absurd h (by omega)
theorem dfV2_ok : ∀ j, j < 2 → defaultValue (tyX2 j) = vp_V dfV2 j := by
  intro j hj
  match j, hj with
  | 0, _ => rfl
  | 1, _ => rfl
  | n + 2, h => exact absurd h (by omega)
theorem dfV3_ok : ∀ j, j < 7 → defaultValue (tyX3 j) = vp_V dfV3 j := by
  intro j hj
  match j, hj with
  | 0, _ => rfl
  | 1, _ => rfl
  | 2, _ => rfl
  | 3, _ => rfl
  | 4, _ => rfl
  | 5, _ => rfl
  | 6, _ => rfl
  | n + 7, h => exact absurd h (by omega)
theorem dfV4_ok : ∀ j, j < 8 → defaultValue (tyX4 j) = vp_V dfV4 j := by
  intro j hj
  match j, hj with
  | 0, _ => rfl
  | 1, _ => rfl
  | 2, _ => rfl
  | 3, _ => rfl
  | 4, _ => rfl
  | 5, _ => rfl
  | 6, _ => rfl
  | 7, _ => rfl
  | n + 8, h => exact absurd h (by omega)
theorem dfV5_ok : ∀ j, j < 4 → defaultValue (tyX5 j) = vp_V dfV5 j := by
  intro j hj
  match j, hj with
  | 0, _ => rfl
  | 1, _ => rfl
  | 2, _ => rfl
  | 3, _ => rfl
  | n + 4, h => exact absurd h (by omega)
theorem dfV6_ok : ∀ j, j < 8 → defaultValue (tyX6 j) = vp_V dfV6 j := by
  intro j hj
  match j, hj with
  | 0, _ => rfl
  | 1, _ => rfl
  | 2, _ => rfl
  | 3, _ => rfl
  | 4, _ => rfl
  | 5, _ => rfl
  | 6, _ => rfl
  | 7, _ => rfl
  | n + 8, h => exact absurd h (by omega)
section ROWSN
variable {G : GT} {l : Launch} {own mn : String} {cc : ByteArray} {mL : Nat} {ret : Option FieldType} {R : Room} {E : ET} {Qc : QT} {sz k n pc nx tg : Nat} {L : List (Option Value)} {st : List Value} {h : Hp} {a j m q M : Nat} {f : Nat → va_E} {e : va_E}
theorem V_hq {h2 : Hp} (e : h = h2) (kk : V G l own mn cc mL ret R E Qc sz k n pc L st h2) : V G l own mn cc mL ret R E Qc sz k n pc L st h := e ▸ kk
theorem N_newi {i : Int32} {N : Nat} (hd : Dc cc pc (.newarray .int) 2 nx) (hN : i.toNatClampNeg = N) (hi : ¬ i < 0) (hb : N * 4 ≤ 536870912) (hc : k + 1 ≤ R.cells) (hs : n + N ≤ R.slots) (hf : f q = iA G N (fun _ => 0)) (hz : sz + k = a + q) (hq : j + 1 + m = q) (hM : m + 1 = M)
    (kk : V G l own mn cc mL ret R E Qc sz (k + 1) (n + N) nx L (.ref (a + q) :: st) (NF h a j M f e)) : V G l own mn cc mL ret R E Qc sz k n pc L (.int i :: st) (NF h a j m f e) := by
  subst hq; subst hM
  refine V_newi hd hN hi hb hc hs (gm 64 (by decide +kernel) rfl) ?_
  rw [hz, NF_add hf]
  exact kk
theorem N_newc {i : Int32} {N : Nat} (hd : Dc cc pc (.newarray .char) 2 nx) (hN : i.toNatClampNeg = N) (hi : ¬ i < 0) (hb : N * 2 ≤ 536870912) (hc : k + 1 ≤ R.cells) (hs : n + N ≤ R.slots) (hf : f q = chA G N (fun _ => 0)) (hz : sz + k = a + q) (hq : j + 1 + m = q) (hM : m + 1 = M)
    (kk : V G l own mn cc mL ret R E Qc sz (k + 1) (n + N) nx L (.ref (a + q) :: st) (NF h a j M f e)) : V G l own mn cc mL ret R E Qc sz k n pc L (.int i :: st) (NF h a j m f e) := by
  subst hq; subst hM
  refine V_newc hd hN hi hb hc hs (gm 173 (by decide +kernel) rfl) ?_
  rw [hz, NF_add hf]
  exact kk
theorem N_new {idx ci N : Nat} {C0 : String} {T : u_T} {tyf : Nat → FieldType} {fs : List Value} (hd : Dc cc pc (.new idx) 3 nx) (hCK : CK ci C0 T tyf N) (h1 : Cond.classLink own idx C0 ∈ lw_gtb) (h2 : Cond.instantiable C0 N ∈ lw_gtb) (h3 : Cond.initialized C0 ∈ lw_gtb) (hfs : ∀ j, j < N → defaultValue (tyf j) = vp_V fs j) (hc : k + 1 ≤ R.cells) (hs : n + N ≤ R.slots) (hz : sz + k = a + q)
    (kk : V G l own mn cc mL ret R E Qc sz (k + 1) (n + N) nx L (.ref (a + q) :: st) (hset h (a + q) (.inr (ci, fs)))) : V G l own mn cc mL ret R E Qc sz k n pc L st h := by
  refine V_new hd hCK h1 h2 h3 hfs hc hs ?_
  rw [hz]
  exact kk
theorem N_callI {y : MethodName} {yc : ByteArray} {ymL d' mc' ms' idx : Nat} {As rest stk : List Value} {d : va_E} (hd : Dc cc pc (.invokespecial idx) 3 nx) (hk : LkI own idx y) (hy : Yk y yc ymL none As.length)
    (hm : Ct G l y yc ymL none d' mc' ms' (sz + k) (.ref (a + q) :: As) (hset (NF h a j m f e) (a + q) d) (Rov (hset (NF h a j m f e) (a + q) d) a q (mc' + 1) f)) (hst : stk = As.reverse ++ .ref (a + q) :: rest) (h8 : (rest.map fun v => v.category).sum ≤ 8) (hR : d' + 1 ≤ R.frames ∧ 8 + (ymL + 11) + 31 * d' ≤ R.locals ∧ k + mc' ≤ R.cells ∧ n + ms' ≤ R.slots) (hq : j + 1 + m = q) (hM : m + (mc' + 1) = M)
    (kk : V G l own mn cc mL ret R E Qc sz (k + mc') (n + ms') nx L rest (NF h a j M f e)) : V G l own mn cc mL ret R E Qc sz k n pc L stk (hset (NF h a j m f e) (a + q) d) := by
  refine V_callI hd hk hy hm hst h8 hR (fun r h' z => ?_)
  obtain ⟨rfl, rfl⟩ := z
  subst hq; subst hM
  rw [NF_call (by omega)]
  exact kk
theorem N_putF {idx ci i : Nat} {T : u_T} {tyf : Nat → FieldType} {N : Nat} {fs fs' : List Value} {v : Value} (hd : Dc cc pc (.putfield idx) 3 nx) (hmn : mn = "<init>") (hCK : CK ci own T tyf N) (hj2 : i < N) (hfin : (T i).2.2.2 = true) (hT : (T i).1 = own) (hk : Cond.fieldLink own idx own (T i).2.1 (T i).2.2.1 ∈ lw_gtb) (hn : narrow (tyf i) v = v) (hfit : fits (tyf i) v = true) (hj : i < fs.length) (hs : fs.set i v = fs')
    (kk : V G l own mn cc mL ret R E Qc sz k n nx L st (NF h a j m f (.inr (ci, fs')))) : V G l own mn cc mL ret R E Qc sz k n pc L (v :: .ref (a + j) :: st) (NF h a j m f (.inr (ci, fs))) := by
  refine V_putF (C0 := own) hd hmn hCK hj2 hfin hT hk NF_at hn hfit hj hs ?_
  rw [NF_put]
  exact kk
theorem N_put {idx ci i : Nat} {ty : FieldType} {fs fs' : List Value} {v : Value} (hd : Dc cc pc (.putfield idx) 3 nx) (hf : FL own idx ci i ty false) (hn : narrow ty v = v) (hfit : fits ty v = true) (hj : i < fs.length) (hs : fs.set i v = fs')
    (kk : V G l own mn cc mL ret R E Qc sz k n nx L st (NF h a j m f (.inr (ci, fs')))) : V G l own mn cc mL ret R E Qc sz k n pc L (v :: .ref (a + j) :: st) (NF h a j m f (.inr (ci, fs))) := by
  refine V_put hd hf NF_at hn hfit hj hs ?_
  rw [NF_put]
  exact kk
end ROWSN
