/-! A layer over the kit: the world as ONE function from addresses to entries (Hp); a judgement V (W, with all that stays the same hidden); a contract Ct. -/
abbrev Hp : Type := Nat → Option va_E
abbrev GT : Type := va_G × ClassId × ClassId × ClassId × Nat × Nat
def gtys (G : GT) : List (ClassId × FieldType) := [(G.2.1, .int), (G.2.2.1, .char), (G.2.2.2.1, .object "TryLoops$State")]
def isNest : Cond → Bool
  | .fieldLinkNest _ _ _ _ _ _ => true
  | .methodLinkNest _ _ _ _ => true
  | _ => false
/-- the words of the tables that speak of nest mates -/
def lw_nw : List Cond := lw_tbl.filter isNest
theorem gn (i : Nat) {w : Cond} (h : lw_tbl[i]? = some w) (g : isNest w = true) : w ∈ lw_nw := List.mem_filter.mpr ⟨List.mem_of_getElem? h, g⟩
theorem nest_on {w : Cond} (h : isNest w = true) : w.onTables = true := by
  cases w <;> first | rfl | (cases h)
theorem nest_warm {w : Cond} {s U : State} (h : isNest w = true) (hW : s.WarmedH U.vm) (hZ : va_Nw w s) : va_Nw w U := by
  cases w with
  | fieldLinkNest => exact va_Nw.warmF hW hZ
  | methodLinkNest => exact va_Nw.warmM hW hZ
  | _ => cases h
/-- the String constant of the verbs, and the static that its methods ask -/
def SF (G : GT) (A : Nat → Prop) (U : State) (H : Heap) : Prop := (vk_R "TryLoops$Text" 68 "gwacst" G.2.2.2.2.1 U ∧ va_AO "TryLoops$State" U) ∧ va_Z "java/lang/String" "COMPACT_STRINGS" "Z" (.int 1) A U H ∧ vk_S 1 [6] [[103, 119, 97, 99, 115, 116]] (fun _ => G.2.2.2.2.1) (fun _ => G.2.2.2.2.2) A U H ∧ ∀ w ∈ lw_nw, va_Nw w U
def lw_gtb : List Cond := lw_tbl.filter goodWord
theorem gm (i : Nat) {w : Cond} (h : lw_tbl[i]? = some w) (g : goodWord w = true) : w ∈ lw_gtb := List.mem_filter.mpr ⟨List.mem_of_getElem? h, g⟩
def hset (h : Hp) (a : Nat) (e : va_E) : Hp := fun q => if q = a then some e else h q
theorem hset_s {h : Hp} {a : Nat} {e : va_E} : hset h a e a = some e := by simp [hset]
theorem hset_n {h : Hp} {a b : Nat} {e : va_E} (n : b ≠ a) : hset h a e b = h b := by simp [hset, n]
def hRel (h : Hp) (ws : va_W) : Prop := ∀ (a : Nat) (e : va_E), h a = some e ↔ ∃ k : Nat, ws[k]? = some (a, e)
def HH (D : va_G) (A : Nat → Prop) (h : Hp) (H : Heap) : Prop := ∃ ws : va_W, hRel h ws ∧ va_P D vwCl ws H ∧ va_D A ws
theorem hRel_set {A : Nat → Prop} {h : Hp} {ws : va_W} {q0 a : Nat} {e0 e1 : va_E} (hr : hRel h ws) (hD : va_D A ws) (hq : ws[q0]? = some (a, e0)) : hRel (hset h a e1) (ws.set q0 (a, e1)) := by
  have hl := (List.getElem?_eq_some_iff.mp hq).1
  intro b e
  constructor
  · intro hb
    by_cases hab : b = a
    · subst hab
      rw [hset_s] at hb
      cases hb
      exact ⟨q0, List.getElem?_set_self hl⟩
    · rw [hset_n hab] at hb
      obtain ⟨k, hk⟩ := (hr b e).mp hb
      refine ⟨k, ?_⟩
      rw [List.getElem?_set_ne]
      · exact hk
      · intro z
        subst z
        rw [hq] at hk
        cases hk
        exact hab rfl
  · intro ⟨k, hk⟩
    by_cases hkq : k = q0
    · subst hkq
      rw [List.getElem?_set_self hl] at hk
      cases hk
      exact hset_s
    · rw [List.getElem?_set_ne (Ne.symm hkq)] at hk
      have hab : b ≠ a := fun z => hkq (hD.1 k q0 _ _ hk hq z)
      rw [hset_n hab]
      exact (hr b e).mpr ⟨k, hk⟩
theorem hRel_push {D : va_G} {H : Heap} {h : Hp} {ws : va_W} {a : Nat} {e1 : va_E} (hr : hRel h ws) (hP : va_P D vwCl ws H) (ha : H.size ≤ a) : hRel (hset h a e1) (ws ++ [(a, e1)]) := by
  intro b e
  constructor
  · intro hb
    by_cases hab : b = a
    · subst hab
      rw [hset_s] at hb
      cases hb
      exact ⟨ws.length, by simp⟩
    · rw [hset_n hab] at hb
      obtain ⟨k, hk⟩ := (hr b e).mp hb
      exact ⟨k, by rw [List.getElem?_append_left (List.getElem?_eq_some_iff.mp hk).1]; exact hk⟩
  · intro ⟨k, hk⟩
    by_cases hl : k < ws.length
    · rw [List.getElem?_append_left hl] at hk
      have h1 := (hP k _ hk).lt
      have hab : b ≠ a := fun z => by subst z; exact absurd h1 (Nat.not_lt.mpr ha)
      rw [hset_n hab]
      exact (hr b e).mpr ⟨k, hk⟩
    · rw [List.getElem?_append_right (by omega)] at hk
      have hz : k - ws.length < 1 := (List.getElem?_eq_some_iff.mp hk).1
      rw [show k - ws.length = 0 by omega] at hk
      cases hk
      exact hset_s
theorem HH.at {D : va_G} {A : Nat → Prop} {h : Hp} {H : Heap} (hh : HH D A h H) {a : Nat} {e : va_E} (he : h a = some e) : va_at D vwCl (a, e) H := by
  obtain ⟨ws, hr, hP, hD⟩ := hh
  obtain ⟨k, hk⟩ := (hr a e).mp he
  exact hP k _ hk
theorem HH.lt {D : va_G} {A : Nat → Prop} {h : Hp} {H : Heap} (hh : HH D A h H) {a : Nat} {e : va_E} (he : h a = some e) : a < H.size := (hh.at he).lt
theorem HH.in {D : va_G} {A : Nat → Prop} {h : Hp} {H : Heap} (hh : HH D A h H) {a : Nat} {e : va_E} (he : h a = some e) : A a := by
  obtain ⟨ws, hr, hP, hD⟩ := hh
  obtain ⟨k, hk⟩ := (hr a e).mp he
  exact hD.2 k _ hk
/-- the cells a method may change -/
def Ax (h : Hp) (sz : Nat) : Nat → Prop := fun q => (∃ e, h q = some e) ∨ sz ≤ q
theorem HH.weaken {D : va_G} {A B : Nat → Prop} {h : Hp} {H : Heap} (hh : HH D A h H) (hAB : ∀ q, A q → B q) : HH D B h H := by
  obtain ⟨ws, hr, hP, hD⟩ := hh
  exact ⟨ws, hr, hP, hD.weaken (fun _ _ _ h => hAB _ h)⟩
theorem HH.self {D : va_G} {A : Nat → Prop} {h : Hp} {H : Heap} {sz : Nat} (hh : HH D A h H) : HH D (Ax h sz) h H := by
  obtain ⟨ws, hr, hP, hD⟩ := hh
  exact ⟨ws, hr, hP, hD.1, fun k q hk => Or.inl ⟨q.2, (hr q.1 q.2).mpr ⟨k, hk⟩⟩⟩
/-- locals as a list of places -/
def hasL (ls : Array Slot) (n : Nat) (L : List (Option Value)) : Prop := ls.size = n ∧ lv_wf ls ∧ L.length = n ∧ ∀ (i : Nat) (v : Value), L[i]? = some (some v) → ls[i]? = some (.val v)
def pairsL (L : List (Option Value)) : List (Nat × Value) := (List.range L.length).filterMap (fun i => match L[i]? with | some (some v) => some (i, v) | _ => none)
theorem mem_pairsL {L : List (Option Value)} {q : Nat × Value} : q ∈ pairsL L ↔ L[q.1]? = some (some q.2) := by
  unfold pairsL
  rw [List.mem_filterMap]
  constructor
  · rintro ⟨i, hi, h⟩
    split at h
    · rename_i v hv
      cases h
      exact hv
    · cases h
  · intro h
    refine ⟨q.1, List.mem_range.mpr (List.getElem?_eq_some_iff.mp h).1, ?_⟩
    rw [h]
theorem hasL.has {ls : Array Slot} {n : Nat} {L : List (Option Value)} (h : hasL ls n L) : lv_has ls n (pairsL L) := ⟨h.1, h.2.1, fun q hq => h.2.2.2 q.1 q.2 (mem_pairsL.mp hq)⟩
theorem hasL.at {ls : Array Slot} {n : Nat} {L : List (Option Value)} (h : hasL ls n L) {i : Nat} {v : Value} (hi : L[i]? = some (some v)) : ls[i]? = some (.val v) := h.2.2.2 i v hi
/-- the place in front of i holds no long -/
def okS (L : List (Option Value)) : Nat → Bool
  | 0 => true
  | i + 1 => match L[i]? with
    | some (some v) => v.category == 1
    | _ => true
theorem okS_ok {L : List (Option Value)} {i : Nat} (h : okS L i = true) : ∀ (j : Nat) (x : Value), j + 1 = i → L[j]? = some (some x) → ¬ x.category = 2 := by
  intro j x e hx
  subst e
  have h' : (match L[j]? with | some (some v) => v.category == 1 | _ => true) = true := h
  rw [hx] at h'
  have : x.category = 1 := by simpa using h'
  omega
theorem hasL.okI {ls : Array Slot} {n : Nat} {L : List (Option Value)} (h : hasL ls n L) {i : Nat} {v : Value} (hi : L[i]? = some (some v)) : ∀ (j : Nat) (x : Value), j + 1 = i → L[j]? = some (some x) → ¬ x.category = 2 := by
  intro j x e hx hc
  subst e
  have h1 := h.2.1.1 j x (h.at hx) hc
  rw [h.at hi] at h1
  cases h1
theorem hasL.stored {ls ls' : Array Slot} {n : Nat} {L : List (Option Value)} {i : Nat} {v : Value} (h : hasL ls n L) (hi : i < n) (ho : ∀ (j : Nat) (x : Value), j + 1 = i → L[j]? = some (some x) → ¬ x.category = 2) (h' : lv_has ls' n ((i, v) :: (pairsL L).filter (fun q => !(q.1 == i) && !(q.1 + 1 == i && q.2.category == 2)))) : hasL ls' n (L.set i (some v)) := by
  refine ⟨h'.1, h'.2.1, by rw [List.length_set]; exact h.2.2.1, fun j x hj => ?_⟩
  by_cases hij : i = j
  · subst hij
    rw [List.getElem?_set_self (by rw [h.2.2.1]; exact hi)] at hj
    cases hj
    exact h'.2.2 (i, v) List.mem_cons_self
  · rw [List.getElem?_set_ne hij] at hj
    refine h'.2.2 (j, x) (List.mem_cons_of_mem _ (List.mem_filter.mpr ⟨mem_pairsL.mpr hj, ?_⟩))
    by_cases hji : j + 1 = i
    · have hc2 := ho j x hji hj
      simp [hc2, Ne.symm hij]
    · simp [hji, Ne.symm hij]
theorem hasL.stored2 {ls ls' : Array Slot} {n : Nat} {L : List (Option Value)} {i : Nat} {v : Value} (h : hasL ls n L) (hi : i + 1 < n) (ho : ∀ (j : Nat) (x : Value), j + 1 = i → L[j]? = some (some x) → ¬ x.category = 2) (h' : lv_has ls' n ((i, v) :: (pairsL L).filter (fun q => !(q.1 == i) && (!(q.1 == i + 1) && !(q.1 + 1 == i && q.2.category == 2))))) : hasL ls' n ((L.set i (some v)).set (i + 1) none) := by
  refine ⟨h'.1, h'.2.1, by rw [List.length_set, List.length_set]; exact h.2.2.1, fun j x hj => ?_⟩
  by_cases hi1 : i + 1 = j
  · subst hi1
    rw [List.getElem?_set_self (by rw [List.length_set, h.2.2.1]; exact hi)] at hj
    cases hj
  · rw [List.getElem?_set_ne hi1] at hj
    by_cases hij : i = j
    · subst hij
      rw [List.getElem?_set_self (by rw [h.2.2.1]; omega)] at hj
      cases hj
      exact h'.2.2 (i, v) List.mem_cons_self
    · rw [List.getElem?_set_ne hij] at hj
      refine h'.2.2 (j, x) (List.mem_cons_of_mem _ (List.mem_filter.mpr ⟨mem_pairsL.mpr hj, ?_⟩))
      by_cases hji : j + 1 = i
      · have hc2 := ho j x hji hj
        simp [hc2, Ne.symm hij, Ne.symm hi1]
      · simp [hji, Ne.symm hij, Ne.symm hi1]
theorem hasL.weaken {ls : Array Slot} {n : Nat} {L L' : List (Option Value)} (h : hasL ls n L) (hn : L'.length = L.length) (hL : ∀ (i : Nat) (v : Value), L'[i]? = some (some v) → L[i]? = some (some v)) : hasL ls n L' :=
  ⟨h.1, h.2.1, hn.trans h.2.2.1, fun i v hi => h.2.2.2 i v (hL i v hi)⟩
/-- what stays the same in a method -/
def Cx (G : GT) (own mn : String) (cc : ByteArray) (mL : Nat) (ret : Option FieldType) (p : Program) (s : State) (m : MethodId) (args : Array Value) (meth : Method) (c : Code) : Prop :=
  p.tables.exec = Jvm.exec ∧ c.code = cc ∧ c.maxLocals = mL ∧ s.vm.findClass own = some m.cls ∧ meth.sig.returnType = ret ∧ meth.locks = false ∧ (∀ w ∈ lw_gtb, w.before args s = true) ∧ va_K G.1 vwCl (gtys G) s ∧ meth.name = mn
abbrev ET : Type := State → (Nat → Prop) → Array Value → Prop
abbrev QT : Type := Array Value → State → List Frame → (Nat → Prop) → State → Prop
def V (G : GT) (l : Launch) (own mn : String) (cc : ByteArray) (mL : Nat) (ret : Option FieldType) (R : Room) (E : ET) (Qc : QT) (sz k n pc : Nat) (L : List (Option Value)) (st : List Value) (h : Hp) : Prop :=
  ∀ (p : Program) (e : Env) (s : State) (m : MethodId) (args : Array Value) (below : List Frame) (meth : Method) (c : Code) (A : Nat → Prop) (H : Heap) (locs : List Loc) (ls : Array Slot),
    Cx G own mn cc mL ret p s m args meth c → E s A args → SF G A s s.heap → (s.heap.size = sz ∧ H.size = sz + k) → HH G.1 A h H → va_S A s.heap H locs → (∀ q, s.heap.size ≤ q → A q) → hasL ls mL L →
    W p l e R s m args below meth c H locs k n (Qc args s below A) (F0 m pc ls st)
def Qpost (G : GT) (Qf : Option Value → Hp → Prop) (sz mc : Nat) (A : Nat → Prop) : Array Value → State → Outcome → State → Prop := fun _ st o t => ∃ (r : Option Value) (h : Hp), o = .returned r ∧ Qf r h ∧ t.heap.size = sz + mc ∧ HH G.1 A h t.heap ∧ va_K G.1 vwCl (gtys G) t ∧ va_F A st t
def Qm (G : GT) (Qf : Option Value → Hp → Prop) (sz mc ms : Nat) : QT := fun args s below A => MQ below (Qpost G Qf sz mc A) args s mc ms A
def E0 : ET := fun _ _ _ => True
def rmd (d mc ms : Nat) : Room := { frames := d, cells := mc, slots := ms, locals := 31 * d }
def wsY (y : MethodName) (cc : ByteArray) (mL : Nat) (ret : Option FieldType) : List Cond := Cond.code y cc mL ret :: lw_gtb
def hPre (G : GT) (sz : Nat) (h : Hp) (U : State) : Prop := U.heap.size = sz ∧ HH G.1 (fun _ => True) h U.heap ∧ va_K G.1 vwCl (gtys G) U ∧ SF G (Ax h sz) U U.heap
/-- the contract of a method: from the world h it answers r and leaves h' with Qf r h' -/
def Ct (G : GT) (l : Launch) (y : MethodName) (cc : ByteArray) (mL : Nat) (ret : Option FieldType) (d mc ms sz : Nat) (av : List Value) (h : Hp) (Qf : Option Value → Hp → Prop) : Prop :=
  Met l y (wsY y cc mL ret) (rmd d mc ms) (va_Pc av (hPre G sz h)) (Qpost G Qf sz mc (Ax h sz)) mc ms (Ax h sz)
theorem good_wsY {y : MethodName} {cc : ByteArray} {mL : Nat} {ret : Option FieldType} (h : Cond.code y cc mL ret ∈ lw_gtb) : GoodIn lw_gtb (wsY y cc mL ret) := by
  intro w hw
  have hm : w ∈ lw_gtb := by
    rcases List.mem_cons.mp hw with rfl | h2
    · exact h
    · exact h2
  exact ⟨hm, good_of_word (List.mem_filter.mp hm).2⟩
theorem lg_cat1 : ∀ (vs : List Value), (∀ v ∈ vs, v.category = 1) → (lg_sl vs).length = vs.length ∧ ∀ (b i : Nat) (v : Value), vs[i]? = some v → (b + i, v) ∈ lv_args b vs := by
  intro vs
  induction vs with
  | nil => exact fun _ => ⟨rfl, fun b i v h => by simp at h⟩
  | cons x r ih =>
    intro h
    have hx := h x List.mem_cons_self
    have hx2 : ¬ x.category = 2 := by omega
    obtain ⟨e1, e2⟩ := ih (fun v hv => h v (List.mem_cons_of_mem _ hv))
    refine ⟨?_, fun b i v hv => ?_⟩
    · have : lg_sl (x :: r) = [.val x] ++ lg_sl r := by simp [lg_sl, hx2]
      rw [this, List.length_append, e1]
      simp
      omega
    · cases i with
      | zero =>
        simp at hv
        subst hv
        simp [lv_args]
      | succ i =>
        simp at hv
        have := e2 (b + 1) i v hv
        simp only [lv_args, if_neg hx2]
        refine List.mem_cons_of_mem _ ?_
        rw [show b + (i + 1) = b + 1 + i by omega]
        exact this
theorem entryL (vs : List Value) (n : Nat) (hv : ∀ v ∈ vs, v.category = 1) (hn : vs.length ≤ n) : hasL ((lg_sl vs ++ List.replicate (n - (lg_sl vs).length) Slot.unset).toArray) n (vs.map some ++ List.replicate (n - vs.length) none) := by
  obtain ⟨e1, e2⟩ := lg_cat1 vs hv
  have hl := lv_entry vs (n := n) (by rw [e1]; exact hn)
  refine ⟨hl.1, hl.2.1, by simp; omega, fun i v hi => ?_⟩
  by_cases h : i < vs.length
  · rw [List.getElem?_append_left (by simpa using h)] at hi
    rw [List.getElem?_map] at hi
    have hvi : vs[i]? = some v := by
      cases hx : vs[i]? with
      | none => rw [hx] at hi; simp at hi
      | some y => rw [hx] at hi; simp at hi; rw [hi]
    exact hl.2.2 (i, v) (by have := e2 0 i v hvi; simpa using this)
  · rw [List.getElem?_append_right (by simpa using h)] at hi
    rw [List.getElem?_replicate] at hi
    split at hi <;> simp at hi
/-- a contract out of a walk -/
theorem Ct.of {G : GT} {l : Launch} {y : MethodName} {cc : ByteArray} {mL : Nat} {ret : Option FieldType} {d mc ms sz : Nat} {av : List Value} {h : Hp} {Qf : Option Value → Hp → Prop} {own mn : String} {L0 : List (Option Value)} (hy : plainName y.cls = true) (ho : y.cls = own) (hmn : y.name = mn) (hav : (av.all fun v => v.category == 1) = true) (hn : av.length ≤ mL) (hL0 : av.map some ++ List.replicate (mL - av.length) none = L0)
    (body : V G l own mn cc mL ret (rmd d mc ms) E0 (Qm G Qf sz mc ms) sz 0 0 0 L0 [] h) : Ct G l y cc mL ret d mc ms sz av h Qf := by
  subst ho; subst hmn; subst hL0
  refine Met.ofW (cc := cc) (maxL := mL) (ret := ret) hy rfl ?_
  intro p e s m args below meth c s₁ B hml hv
  obtain ⟨rfl, hsz, hh, hK, hSF⟩ := hv
  have hts := atoms_spec (ws := wsY y cc mL ret) B.pre
  rw [lg_entry_eq]
  have hav' : ∀ v ∈ av, v.category = 1 := fun v hv => by simpa using List.all_eq_true.mp hav v hv
  exact body p e s m av.toArray below meth c (Ax h sz) s.heap [] _ ⟨B.exec, B.bytes, hml, findClass_of_methodNamed B.named, B.returns, B.notSynchronized, fun w hw => hts w (List.mem_cons_of_mem _ hw), hK, (name_of_methodNamed B.named B.method).1⟩ trivial hSF ⟨hsz, hsz⟩ hh.self va_S.rf (fun q hq => Or.inr (by rw [← hsz]; exact hq)) (entryL av mL hav' hn)
theorem Ct.weaken {G : GT} {l : Launch} {y : MethodName} {cc : ByteArray} {mL : Nat} {ret : Option FieldType} {d mc ms sz : Nat} {av : List Value} {h : Hp} {Qf Qg : Option Value → Hp → Prop} (hc : Ct G l y cc mL ret d mc ms sz av h Qf) (hq : ∀ r h', Qf r h' → Qg r h') : Ct G l y cc mL ret d mc ms sz av h Qg := by
  intro p e ha hcc hk s m args below hf hap hpre hK
  obtain ⟨t, o, a1, a2, a3, a4, a5⟩ := hc p e ha hcc hk s m args below hf hap hpre hK
  obtain ⟨r, h', b1, b2, b3⟩ := a4
  exact ⟨t, o, a1, a2, a3, ⟨r, h', b1, hq r h' b2, b3⟩, a5⟩
section ROWS
variable {G : GT} {l : Launch} {own mn : String} {cc : ByteArray} {mL : Nat} {ret : Option FieldType} {R : Room} {E : ET} {Qc : QT} {sz k n pc nx tg : Nat} {L : List (Option Value)} {st : List Value} {h : Hp}

theorem V_iconst {j : Int} {v : Int32} (hd : Dc cc pc (.iconst j) 1 nx) (hv : Int32.ofInt j = v)
    (kk : V G l own mn cc mL ret R E Qc sz k n nx L (.int v :: st) h) : V G l own mn cc mL ret R E Qc sz k n pc L (st) h := by
  obtain ⟨hd, rfl⟩ := hd
  intro p e s m args below meth c A H locs ls C hE hF hz hh hS hA hl
  exact lv_iconst C.1 C.2.1 hd hv (kk p e s m args below meth c A H locs ls C hE hF hz hh hS hA hl)
theorem V_bipush {j : Int} {v : Int32} (hd : Dc cc pc (.bipush j) 2 nx) (hv : (Int8.ofInt j).toInt32 = v)
    (kk : V G l own mn cc mL ret R E Qc sz k n nx L (.int v :: st) h) : V G l own mn cc mL ret R E Qc sz k n pc L (st) h := by
  obtain ⟨hd, rfl⟩ := hd
  intro p e s m args below meth c A H locs ls C hE hF hz hh hS hA hl
  exact lv_bipush C.1 C.2.1 hd hv (kk p e s m args below meth c A H locs ls C hE hF hz hh hS hA hl)
theorem V_sipush {j : Int} {v : Int32} (hd : Dc cc pc (.sipush j) 3 nx) (hv : (Int16.ofInt j).toInt32 = v)
    (kk : V G l own mn cc mL ret R E Qc sz k n nx L (.int v :: st) h) : V G l own mn cc mL ret R E Qc sz k n pc L (st) h := by
  obtain ⟨hd, rfl⟩ := hd
  intro p e s m args below meth c A H locs ls C hE hF hz hh hS hA hl
  exact lv_sipush C.1 C.2.1 hd hv (kk p e s m args below meth c A H locs ls C hE hF hz hh hS hA hl)
theorem V_iload_n {j : Fin 4} {x : Int32} (hd : Dc cc pc (.iload_n j) 1 nx) (hL : L[(j : Nat)]? = some (some (.int x)))
    (kk : V G l own mn cc mL ret R E Qc sz k n nx L (.int x :: st) h) : V G l own mn cc mL ret R E Qc sz k n pc L (st) h := by
  obtain ⟨hd, rfl⟩ := hd
  intro p e s m args below meth c A H locs ls C hE hF hz hh hS hA hl
  exact lv_iload_n C.1 C.2.1 hd rfl (hl.at hL) (kk p e s m args below meth c A H locs ls C hE hF hz hh hS hA hl)
theorem V_iload {j : Nat} {x : Int32} (hd : Dc cc pc (.iload j) 2 nx) (hL : L[j]? = some (some (.int x)))
    (kk : V G l own mn cc mL ret R E Qc sz k n nx L (.int x :: st) h) : V G l own mn cc mL ret R E Qc sz k n pc L (st) h := by
  obtain ⟨hd, rfl⟩ := hd
  intro p e s m args below meth c A H locs ls C hE hF hz hh hS hA hl
  exact lv_iload C.1 C.2.1 hd (hl.at hL) (kk p e s m args below meth c A H locs ls C hE hF hz hh hS hA hl)
theorem V_aload_n {j : Fin 4} {x : Nat} (hd : Dc cc pc (.aload_n j) 1 nx) (hL : L[(j : Nat)]? = some (some (.ref x)))
    (kk : V G l own mn cc mL ret R E Qc sz k n nx L (.ref x :: st) h) : V G l own mn cc mL ret R E Qc sz k n pc L (st) h := by
  obtain ⟨hd, rfl⟩ := hd
  intro p e s m args below meth c A H locs ls C hE hF hz hh hS hA hl
  exact lv_aload_n C.1 C.2.1 hd rfl (hl.at hL) (kk p e s m args below meth c A H locs ls C hE hF hz hh hS hA hl)
theorem V_aload {j : Nat} {x : Nat} (hd : Dc cc pc (.aload j) 2 nx) (hL : L[j]? = some (some (.ref x)))
    (kk : V G l own mn cc mL ret R E Qc sz k n nx L (.ref x :: st) h) : V G l own mn cc mL ret R E Qc sz k n pc L (st) h := by
  obtain ⟨hd, rfl⟩ := hd
  intro p e s m args below meth c A H locs ls C hE hF hz hh hS hA hl
  exact lv_aload C.1 C.2.1 hd (hl.at hL) (kk p e s m args below meth c A H locs ls C hE hF hz hh hS hA hl)
theorem V_istore_n {j : Fin 4} {x : Int32} {L' : List (Option Value)} (hd : Dc cc pc (.istore_n j) 1 nx) (hi : (j : Nat) < mL) (hL' : L.set (j : Nat) (some (.int x)) = L') (ho : okS L (j : Nat) = true)
    (kk : V G l own mn cc mL ret R E Qc sz k n nx L' st h) : V G l own mn cc mL ret R E Qc sz k n pc L (.int x :: st) h := by
  obtain ⟨hd, rfl⟩ := hd
  subst hL'
  intro p e s m args below meth c A H locs ls C hE hF hz hh hS hA hl
  exact lv_istore_n C.1 C.2.1 hd rfl hl.has hi rfl (fun ls' hl' => kk p e s m args below meth c A H locs ls' C hE hF hz hh hS hA (hl.stored hi (okS_ok ho) hl'))
theorem V_istore {j : Nat} {x : Int32} {L' : List (Option Value)} (hd : Dc cc pc (.istore j) 2 nx) (hi : j < mL) (hL' : L.set j (some (.int x)) = L') (ho : okS L j = true)
    (kk : V G l own mn cc mL ret R E Qc sz k n nx L' st h) : V G l own mn cc mL ret R E Qc sz k n pc L (.int x :: st) h := by
  obtain ⟨hd, rfl⟩ := hd
  subst hL'
  intro p e s m args below meth c A H locs ls C hE hF hz hh hS hA hl
  exact lv_istore C.1 C.2.1 hd hl.has hi rfl (fun ls' hl' => kk p e s m args below meth c A H locs ls' C hE hF hz hh hS hA (hl.stored hi (okS_ok ho) hl'))
theorem V_astore_n {j : Fin 4} {x : Nat} {L' : List (Option Value)} (hd : Dc cc pc (.astore_n j) 1 nx) (hi : (j : Nat) < mL) (hL' : L.set (j : Nat) (some (.ref x)) = L') (ho : okS L (j : Nat) = true)
    (kk : V G l own mn cc mL ret R E Qc sz k n nx L' st h) : V G l own mn cc mL ret R E Qc sz k n pc L (.ref x :: st) h := by
  obtain ⟨hd, rfl⟩ := hd
  subst hL'
  intro p e s m args below meth c A H locs ls C hE hF hz hh hS hA hl
  exact lv_astore_n C.1 C.2.1 hd rfl hl.has hi rfl (fun ls' hl' => kk p e s m args below meth c A H locs ls' C hE hF hz hh hS hA (hl.stored hi (okS_ok ho) hl'))
theorem V_astore {j : Nat} {x : Nat} {L' : List (Option Value)} (hd : Dc cc pc (.astore j) 2 nx) (hi : j < mL) (hL' : L.set j (some (.ref x)) = L') (ho : okS L j = true)
    (kk : V G l own mn cc mL ret R E Qc sz k n nx L' st h) : V G l own mn cc mL ret R E Qc sz k n pc L (.ref x :: st) h := by
  obtain ⟨hd, rfl⟩ := hd
  subst hL'
  intro p e s m args below meth c A H locs ls C hE hF hz hh hS hA hl
  exact lv_astore C.1 C.2.1 hd hl.has hi rfl (fun ls' hl' => kk p e s m args below meth c A H locs ls' C hE hF hz hh hS hA (hl.stored hi (okS_ok ho) hl'))
theorem V_lstore_n {j : Fin 4} {x : Int64} {L' : List (Option Value)} (hd : Dc cc pc (.lstore_n j) 1 nx) (hi : (j : Nat) + 1 < mL) (hL' : (L.set (j : Nat) (some (.long x))).set ((j : Nat) + 1) none = L') (ho : okS L (j : Nat) = true)
    (kk : V G l own mn cc mL ret R E Qc sz k n nx L' st h) : V G l own mn cc mL ret R E Qc sz k n pc L (.long x :: st) h := by
  obtain ⟨hd, rfl⟩ := hd
  subst hL'
  intro p e s m args below meth c A H locs ls C hE hF hz hh hS hA hl
  exact lv_lstore_n C.1 C.2.1 hd rfl hl.has hi rfl (fun ls' hl' => kk p e s m args below meth c A H locs ls' C hE hF hz hh hS hA (hl.stored2 hi (okS_ok ho) hl'))
theorem V_lstore {j : Nat} {x : Int64} {L' : List (Option Value)} (hd : Dc cc pc (.lstore j) 2 nx) (hi : j + 1 < mL) (hL' : (L.set j (some (.long x))).set (j + 1) none = L') (ho : okS L j = true)
    (kk : V G l own mn cc mL ret R E Qc sz k n nx L' st h) : V G l own mn cc mL ret R E Qc sz k n pc L (.long x :: st) h := by
  obtain ⟨hd, rfl⟩ := hd
  subst hL'
  intro p e s m args below meth c A H locs ls C hE hF hz hh hS hA hl
  exact lv_lstore C.1 C.2.1 hd hl.has hi rfl (fun ls' hl' => kk p e s m args below meth c A H locs ls' C hE hF hz hh hS hA (hl.stored2 hi (okS_ok ho) hl'))
theorem V_lload_n {j : Fin 4} {x : Int64} (hd : Dc cc pc (.lload_n j) 1 nx) (hL : L[(j : Nat)]? = some (some (.long x)))
    (kk : V G l own mn cc mL ret R E Qc sz k n nx L (.long x :: st) h) : V G l own mn cc mL ret R E Qc sz k n pc L (st) h := by
  obtain ⟨hd, rfl⟩ := hd
  intro p e s m args below meth c A H locs ls C hE hF hz hh hS hA hl
  exact lv_lload_n C.1 C.2.1 hd rfl (hl.at hL) (kk p e s m args below meth c A H locs ls C hE hF hz hh hS hA hl)
theorem V_lload {j : Nat} {x : Int64} (hd : Dc cc pc (.lload j) 2 nx) (hL : L[j]? = some (some (.long x)))
    (kk : V G l own mn cc mL ret R E Qc sz k n nx L (.long x :: st) h) : V G l own mn cc mL ret R E Qc sz k n pc L (st) h := by
  obtain ⟨hd, rfl⟩ := hd
  intro p e s m args below meth c A H locs ls C hE hF hz hh hS hA hl
  exact lv_lload C.1 C.2.1 hd (hl.at hL) (kk p e s m args below meth c A H locs ls C hE hF hz hh hS hA hl)
theorem V_ladd {x y : Int64} (hd : Dc cc pc (.ladd) 1 nx)
    (kk : V G l own mn cc mL ret R E Qc sz k n nx L (.long (x + y) :: st) h) : V G l own mn cc mL ret R E Qc sz k n pc L (.long y :: .long x :: st) h := by
  obtain ⟨hd, rfl⟩ := hd
  intro p e s m args below meth c A H locs ls C hE hF hz hh hS hA hl
  exact lv_ladd C.1 C.2.1 hd (kk p e s m args below meth c A H locs ls C hE hF hz hh hS hA hl)
theorem V_lmul {x y : Int64} (hd : Dc cc pc (.lmul) 1 nx)
    (kk : V G l own mn cc mL ret R E Qc sz k n nx L (.long (x * y) :: st) h) : V G l own mn cc mL ret R E Qc sz k n pc L (.long y :: .long x :: st) h := by
  obtain ⟨hd, rfl⟩ := hd
  intro p e s m args below meth c A H locs ls C hE hF hz hh hS hA hl
  exact lv_lmul C.1 C.2.1 hd (kk p e s m args below meth c A H locs ls C hE hF hz hh hS hA hl)
theorem V_i2l {x : Int32} {v : Int64} (hd : Dc cc pc (.i2l) 1 nx) (hv : x.toInt64 = v)
    (kk : V G l own mn cc mL ret R E Qc sz k n nx L (.long v :: st) h) : V G l own mn cc mL ret R E Qc sz k n pc L (.int x :: st) h := by
  obtain ⟨hd, rfl⟩ := hd
  intro p e s m args below meth c A H locs ls C hE hF hz hh hS hA hl
  exact lv_i2l C.1 C.2.1 hd hv (kk p e s m args below meth c A H locs ls C hE hF hz hh hS hA hl)
theorem V_lcmp {x y : Int64} (hd : Dc cc pc (.lcmp) 1 nx)
    (kk : V G l own mn cc mL ret R E Qc sz k n nx L (.int (lg_cmp x y) :: st) h) : V G l own mn cc mL ret R E Qc sz k n pc L (.long y :: .long x :: st) h := by
  obtain ⟨hd, rfl⟩ := hd
  intro p e s m args below meth c A H locs ls C hE hF hz hh hS hA hl
  exact W.lcmp C.1 C.2.1 hd (kk p e s m args below meth c A H locs ls C hE hF hz hh hS hA hl)
theorem V_ldc {i : Nat} {v : Int32} (hd : Dc cc pc (.ldc i) 2 nx) (hw : Jvm.Cond.constant own i v ∈ lw_gtb)
    (kk : V G l own mn cc mL ret R E Qc sz k n nx L (.int v :: st) h) : V G l own mn cc mL ret R E Qc sz k n pc L (st) h := by
  obtain ⟨hd, rfl⟩ := hd
  intro p e s m args below meth c A H locs ls C hE hF hz hh hS hA hl
  exact lv_ldc C.1 C.2.1 C.2.2.2.1 (C.2.2.2.2.2.2.1 _ hw) hd (kk p e s m args below meth c A H locs ls C hE hF hz hh hS hA hl)
theorem V_ldc2 {i : Nat} {v : Int64} (hd : Dc cc pc (.ldc2_w i) 3 nx) (hw : Jvm.Cond.constantLong own i v ∈ lw_gtb)
    (kk : V G l own mn cc mL ret R E Qc sz k n nx L (.long v :: st) h) : V G l own mn cc mL ret R E Qc sz k n pc L (st) h := by
  obtain ⟨hd, rfl⟩ := hd
  intro p e s m args below meth c A H locs ls C hE hF hz hh hS hA hl
  exact lv_ldc2 C.1 C.2.1 C.2.2.2.1 (C.2.2.2.2.2.2.1 _ hw) hd (kk p e s m args below meth c A H locs ls C hE hF hz hh hS hA hl)
theorem V_iinc {j : Nat} {i : Int} {x v : Int32} {L' : List (Option Value)} (hd : Dc cc pc (.iinc j i) 3 nx) (hL : L[j]? = some (some (.int x))) (hv : x + Int32.ofInt i = v) (hi : j < mL) (hL' : L.set j (some (.int v)) = L')
    (kk : V G l own mn cc mL ret R E Qc sz k n nx L' st h) : V G l own mn cc mL ret R E Qc sz k n pc L st h := by
  obtain ⟨hd, rfl⟩ := hd
  subst hL'
  intro p e s m args below meth c A H locs ls C hE hF hz hh hS hA hl
  obtain ⟨q, hq⟩ := List.getElem?_of_mem ((mem_pairsL (q := (j, Value.int x))).mpr hL)
  exact lv_iinc C.1 C.2.1 hd hl.has hq hv hi rfl (fun ls' hl' => kk p e s m args below meth c A H locs ls' C hE hF hz hh hS hA (hl.stored hi (hl.okI hL) hl'))
theorem V_iadd {x y : Int32} (hd : Dc cc pc (.iadd) 1 nx)
    (kk : V G l own mn cc mL ret R E Qc sz k n nx L (.int (x + y) :: st) h) : V G l own mn cc mL ret R E Qc sz k n pc L (.int y :: .int x :: st) h := by
  obtain ⟨hd, rfl⟩ := hd
  intro p e s m args below meth c A H locs ls C hE hF hz hh hS hA hl
  exact lv_iadd C.1 C.2.1 hd (kk p e s m args below meth c A H locs ls C hE hF hz hh hS hA hl)
theorem V_isub {x y : Int32} (hd : Dc cc pc (.isub) 1 nx)
    (kk : V G l own mn cc mL ret R E Qc sz k n nx L (.int (x - y) :: st) h) : V G l own mn cc mL ret R E Qc sz k n pc L (.int y :: .int x :: st) h := by
  obtain ⟨hd, rfl⟩ := hd
  intro p e s m args below meth c A H locs ls C hE hF hz hh hS hA hl
  exact lv_isub C.1 C.2.1 hd (kk p e s m args below meth c A H locs ls C hE hF hz hh hS hA hl)
theorem V_imul {x y : Int32} (hd : Dc cc pc (.imul) 1 nx)
    (kk : V G l own mn cc mL ret R E Qc sz k n nx L (.int (x * y) :: st) h) : V G l own mn cc mL ret R E Qc sz k n pc L (.int y :: .int x :: st) h := by
  obtain ⟨hd, rfl⟩ := hd
  intro p e s m args below meth c A H locs ls C hE hF hz hh hS hA hl
  exact lv_imul C.1 C.2.1 hd (kk p e s m args below meth c A H locs ls C hE hF hz hh hS hA hl)
theorem V_iand {x y : Int32} (hd : Dc cc pc (.iand) 1 nx)
    (kk : V G l own mn cc mL ret R E Qc sz k n nx L (.int (x &&& y) :: st) h) : V G l own mn cc mL ret R E Qc sz k n pc L (.int y :: .int x :: st) h := by
  obtain ⟨hd, rfl⟩ := hd
  intro p e s m args below meth c A H locs ls C hE hF hz hh hS hA hl
  exact lv_iand C.1 C.2.1 hd (kk p e s m args below meth c A H locs ls C hE hF hz hh hS hA hl)
theorem V_ineg {x : Int32} (hd : Dc cc pc (.ineg) 1 nx)
    (kk : V G l own mn cc mL ret R E Qc sz k n nx L (.int (-x) :: st) h) : V G l own mn cc mL ret R E Qc sz k n pc L (.int x :: st) h := by
  obtain ⟨hd, rfl⟩ := hd
  intro p e s m args below meth c A H locs ls C hE hF hz hh hS hA hl
  exact lv_ineg C.1 C.2.1 hd (kk p e s m args below meth c A H locs ls C hE hF hz hh hS hA hl)
theorem V_idiv {x y : Int32} (hd : Dc cc pc (.idiv) 1 nx) (hy : ¬ y = 0)
    (kk : V G l own mn cc mL ret R E Qc sz k n nx L (.int (x / y) :: st) h) : V G l own mn cc mL ret R E Qc sz k n pc L (.int y :: .int x :: st) h := by
  obtain ⟨hd, rfl⟩ := hd
  intro p e s m args below meth c A H locs ls C hE hF hz hh hS hA hl
  exact lv_idiv C.1 C.2.1 hd hy (kk p e s m args below meth c A H locs ls C hE hF hz hh hS hA hl)
theorem V_irem {x y : Int32} (hd : Dc cc pc (.irem) 1 nx) (hy : ¬ y = 0)
    (kk : V G l own mn cc mL ret R E Qc sz k n nx L (.int (x - x / y * y) :: st) h) : V G l own mn cc mL ret R E Qc sz k n pc L (.int y :: .int x :: st) h := by
  obtain ⟨hd, rfl⟩ := hd
  intro p e s m args below meth c A H locs ls C hE hF hz hh hS hA hl
  exact lv_irem C.1 C.2.1 hd hy (kk p e s m args below meth c A H locs ls C hE hF hz hh hS hA hl)
theorem V_i2c {x v : Int32} (hd : Dc cc pc (.i2c) 1 nx) (hv : (x.toUInt32 % 65536).toInt32 = v)
    (kk : V G l own mn cc mL ret R E Qc sz k n nx L (.int v :: st) h) : V G l own mn cc mL ret R E Qc sz k n pc L (.int x :: st) h := by
  obtain ⟨hd, rfl⟩ := hd
  intro p e s m args below meth c A H locs ls C hE hF hz hh hS hA hl
  exact lv_i2c C.1 C.2.1 hd hv (kk p e s m args below meth c A H locs ls C hE hF hz hh hS hA hl)
theorem V_dup {a : Value} (hd : Dc cc pc (.dup) 1 nx) (ha : a.category = 1)
    (kk : V G l own mn cc mL ret R E Qc sz k n nx L (a :: a :: st) h) : V G l own mn cc mL ret R E Qc sz k n pc L (a :: st) h := by
  obtain ⟨hd, rfl⟩ := hd
  intro p e s m args below meth c A H locs ls C hE hF hz hh hS hA hl
  exact lv_dup C.1 C.2.1 hd ha (kk p e s m args below meth c A H locs ls C hE hF hz hh hS hA hl)
theorem V_pop {a : Value} (hd : Dc cc pc (.pop) 1 nx) (ha : a.category = 1)
    (kk : V G l own mn cc mL ret R E Qc sz k n nx L (st) h) : V G l own mn cc mL ret R E Qc sz k n pc L (a :: st) h := by
  obtain ⟨hd, rfl⟩ := hd
  intro p e s m args below meth c A H locs ls C hE hF hz hh hS hA hl
  exact lv_pop C.1 C.2.1 hd ha (kk p e s m args below meth c A H locs ls C hE hF hz hh hS hA hl)
theorem V_dup2 {a b : Value} (hd : Dc cc pc (.dup2) 1 nx) (ha : a.category = 1) (hb : b.category = 1)
    (kk : V G l own mn cc mL ret R E Qc sz k n nx L (a :: b :: a :: b :: st) h) : V G l own mn cc mL ret R E Qc sz k n pc L (a :: b :: st) h := by
  obtain ⟨hd, rfl⟩ := hd
  intro p e s m args below meth c A H locs ls C hE hF hz hh hS hA hl
  exact lv_dup2_11 C.1 C.2.1 hd ha hb (kk p e s m args below meth c A H locs ls C hE hF hz hh hS hA hl)
theorem V_top {x : Int32} (kk : ∀ y : Int32, y = x → V G l own mn cc mL ret R E Qc sz k n pc L (.int y :: st) h) : V G l own mn cc mL ret R E Qc sz k n pc L (.int x :: st) h := kk x rfl
theorem V_toe {x y : Int32} (e : x = y) (kk : V G l own mn cc mL ret R E Qc sz k n pc L (.int y :: st) h) : V G l own mn cc mL ret R E Qc sz k n pc L (.int x :: st) h := e ▸ kk
theorem V_loc {L' : List (Option Value)} (hn : L'.length = L.length) (hL : ∀ (i : Nat) (v : Value), L'[i]? = some (some v) → L[i]? = some (some v)) (kk : V G l own mn cc mL ret R E Qc sz k n pc L' st h) : V G l own mn cc mL ret R E Qc sz k n pc L st h :=
  fun p e s m args below meth c A H locs ls C hE hF hz hh hS hA hl => kk p e s m args below meth c A H locs ls C hE hF hz hh hS hA (hl.weaken hn hL)
theorem V_goto (hd : Db cc pc .goto nx tg) (kk : V G l own mn cc mL ret R E Qc sz k n tg L st h) : V G l own mn cc mL ret R E Qc sz k n pc L st h := by
  obtain ⟨off, hd, rfl, ht⟩ := hd
  intro p e s m args below meth c A H locs ls C hE hF hz hh hS hA hl
  exact lv_goto C.1 C.2.1 hd ht (kk p e s m args below meth c A H locs ls C hE hF hz hh hS hA hl)
theorem V_ifnull {x : Nat} (hd : Db cc pc .ifnull nx tg) (kk : V G l own mn cc mL ret R E Qc sz k n nx L st h) : V G l own mn cc mL ret R E Qc sz k n pc L (.ref x :: st) h := by
  obtain ⟨off, hd, rfl, ht⟩ := hd
  intro p e s m args below meth c A H locs ls C hE hF hz hh hS hA hl
  exact lv_ifnull C.1 C.2.1 hd (kk p e s m args below meth c A H locs ls C hE hF hz hh hS hA hl)
theorem V_ifnonnull {x : Nat} (hd : Db cc pc .ifnonnull nx tg) (kk : V G l own mn cc mL ret R E Qc sz k n tg L st h) : V G l own mn cc mL ret R E Qc sz k n pc L (.ref x :: st) h := by
  obtain ⟨off, hd, rfl, ht⟩ := hd
  intro p e s m args below meth c A H locs ls C hE hF hz hh hS hA hl
  exact lv_ifnonnull C.1 C.2.1 hd ht (kk p e s m args below meth c A H locs ls C hE hF hz hh hS hA hl)
theorem V_icmp_eq {x y : Int32} (hd : Db cc pc (fun o => .if_icmp .eq o) nx tg) (kt : x = y → V G l own mn cc mL ret R E Qc sz k n tg L st h) (kf : ¬ (x = y) → V G l own mn cc mL ret R E Qc sz k n nx L st h) : V G l own mn cc mL ret R E Qc sz k n pc L (.int y :: .int x :: st) h := by
  obtain ⟨off, hd, rfl, ht⟩ := hd
  intro p e s m args below meth c A H locs ls C hE hF hz hh hS hA hl
  exact lv_icmp_eq C.1 C.2.1 hd ht (fun z => kt z p e s m args below meth c A H locs ls C hE hF hz hh hS hA hl) (fun z => kf z p e s m args below meth c A H locs ls C hE hF hz hh hS hA hl)
theorem V_if_eq {x : Int32} (hd : Db cc pc (fun o => .ifCond .eq o) nx tg) (kt : x = 0 → V G l own mn cc mL ret R E Qc sz k n tg L st h) (kf : ¬ (x = 0) → V G l own mn cc mL ret R E Qc sz k n nx L st h) : V G l own mn cc mL ret R E Qc sz k n pc L (.int x :: st) h := by
  obtain ⟨off, hd, rfl, ht⟩ := hd
  intro p e s m args below meth c A H locs ls C hE hF hz hh hS hA hl
  exact lv_if_eq C.1 C.2.1 hd ht (fun z => kt z p e s m args below meth c A H locs ls C hE hF hz hh hS hA hl) (fun z => kf z p e s m args below meth c A H locs ls C hE hF hz hh hS hA hl)
theorem V_icmp_ne {x y : Int32} (hd : Db cc pc (fun o => .if_icmp .ne o) nx tg) (kt : ¬ x = y → V G l own mn cc mL ret R E Qc sz k n tg L st h) (kf : x = y → V G l own mn cc mL ret R E Qc sz k n nx L st h) : V G l own mn cc mL ret R E Qc sz k n pc L (.int y :: .int x :: st) h := by
  obtain ⟨off, hd, rfl, ht⟩ := hd
  intro p e s m args below meth c A H locs ls C hE hF hz hh hS hA hl
  exact lv_icmp_ne C.1 C.2.1 hd ht (fun z => kt z p e s m args below meth c A H locs ls C hE hF hz hh hS hA hl) (fun z => kf z p e s m args below meth c A H locs ls C hE hF hz hh hS hA hl)
theorem V_if_ne {x : Int32} (hd : Db cc pc (fun o => .ifCond .ne o) nx tg) (kt : ¬ x = 0 → V G l own mn cc mL ret R E Qc sz k n tg L st h) (kf : x = 0 → V G l own mn cc mL ret R E Qc sz k n nx L st h) : V G l own mn cc mL ret R E Qc sz k n pc L (.int x :: st) h := by
  obtain ⟨off, hd, rfl, ht⟩ := hd
  intro p e s m args below meth c A H locs ls C hE hF hz hh hS hA hl
  exact lv_if_ne C.1 C.2.1 hd ht (fun z => kt z p e s m args below meth c A H locs ls C hE hF hz hh hS hA hl) (fun z => kf z p e s m args below meth c A H locs ls C hE hF hz hh hS hA hl)
theorem V_icmp_lt {x y : Int32} (hd : Db cc pc (fun o => .if_icmp .lt o) nx tg) (kt : x < y → V G l own mn cc mL ret R E Qc sz k n tg L st h) (kf : ¬ (x < y) → V G l own mn cc mL ret R E Qc sz k n nx L st h) : V G l own mn cc mL ret R E Qc sz k n pc L (.int y :: .int x :: st) h := by
  obtain ⟨off, hd, rfl, ht⟩ := hd
  intro p e s m args below meth c A H locs ls C hE hF hz hh hS hA hl
  exact lv_icmp_lt C.1 C.2.1 hd ht (fun z => kt z p e s m args below meth c A H locs ls C hE hF hz hh hS hA hl) (fun z => kf z p e s m args below meth c A H locs ls C hE hF hz hh hS hA hl)
theorem V_if_lt {x : Int32} (hd : Db cc pc (fun o => .ifCond .lt o) nx tg) (kt : x < 0 → V G l own mn cc mL ret R E Qc sz k n tg L st h) (kf : ¬ (x < 0) → V G l own mn cc mL ret R E Qc sz k n nx L st h) : V G l own mn cc mL ret R E Qc sz k n pc L (.int x :: st) h := by
  obtain ⟨off, hd, rfl, ht⟩ := hd
  intro p e s m args below meth c A H locs ls C hE hF hz hh hS hA hl
  exact lv_if_lt C.1 C.2.1 hd ht (fun z => kt z p e s m args below meth c A H locs ls C hE hF hz hh hS hA hl) (fun z => kf z p e s m args below meth c A H locs ls C hE hF hz hh hS hA hl)
theorem V_icmp_ge {x y : Int32} (hd : Db cc pc (fun o => .if_icmp .ge o) nx tg) (kt : y ≤ x → V G l own mn cc mL ret R E Qc sz k n tg L st h) (kf : ¬ (y ≤ x) → V G l own mn cc mL ret R E Qc sz k n nx L st h) : V G l own mn cc mL ret R E Qc sz k n pc L (.int y :: .int x :: st) h := by
  obtain ⟨off, hd, rfl, ht⟩ := hd
  intro p e s m args below meth c A H locs ls C hE hF hz hh hS hA hl
  exact lv_icmp_ge C.1 C.2.1 hd ht (fun z => kt z p e s m args below meth c A H locs ls C hE hF hz hh hS hA hl) (fun z => kf z p e s m args below meth c A H locs ls C hE hF hz hh hS hA hl)
theorem V_if_ge {x : Int32} (hd : Db cc pc (fun o => .ifCond .ge o) nx tg) (kt : 0 ≤ x → V G l own mn cc mL ret R E Qc sz k n tg L st h) (kf : ¬ (0 ≤ x) → V G l own mn cc mL ret R E Qc sz k n nx L st h) : V G l own mn cc mL ret R E Qc sz k n pc L (.int x :: st) h := by
  obtain ⟨off, hd, rfl, ht⟩ := hd
  intro p e s m args below meth c A H locs ls C hE hF hz hh hS hA hl
  exact lv_if_ge C.1 C.2.1 hd ht (fun z => kt z p e s m args below meth c A H locs ls C hE hF hz hh hS hA hl) (fun z => kf z p e s m args below meth c A H locs ls C hE hF hz hh hS hA hl)
theorem V_icmp_gt {x y : Int32} (hd : Db cc pc (fun o => .if_icmp .gt o) nx tg) (kt : y < x → V G l own mn cc mL ret R E Qc sz k n tg L st h) (kf : ¬ (y < x) → V G l own mn cc mL ret R E Qc sz k n nx L st h) : V G l own mn cc mL ret R E Qc sz k n pc L (.int y :: .int x :: st) h := by
  obtain ⟨off, hd, rfl, ht⟩ := hd
  intro p e s m args below meth c A H locs ls C hE hF hz hh hS hA hl
  exact lv_icmp_gt C.1 C.2.1 hd ht (fun z => kt z p e s m args below meth c A H locs ls C hE hF hz hh hS hA hl) (fun z => kf z p e s m args below meth c A H locs ls C hE hF hz hh hS hA hl)
theorem V_if_gt {x : Int32} (hd : Db cc pc (fun o => .ifCond .gt o) nx tg) (kt : 0 < x → V G l own mn cc mL ret R E Qc sz k n tg L st h) (kf : ¬ (0 < x) → V G l own mn cc mL ret R E Qc sz k n nx L st h) : V G l own mn cc mL ret R E Qc sz k n pc L (.int x :: st) h := by
  obtain ⟨off, hd, rfl, ht⟩ := hd
  intro p e s m args below meth c A H locs ls C hE hF hz hh hS hA hl
  exact lv_if_gt C.1 C.2.1 hd ht (fun z => kt z p e s m args below meth c A H locs ls C hE hF hz hh hS hA hl) (fun z => kf z p e s m args below meth c A H locs ls C hE hF hz hh hS hA hl)
theorem V_icmp_le {x y : Int32} (hd : Db cc pc (fun o => .if_icmp .le o) nx tg) (kt : x ≤ y → V G l own mn cc mL ret R E Qc sz k n tg L st h) (kf : ¬ (x ≤ y) → V G l own mn cc mL ret R E Qc sz k n nx L st h) : V G l own mn cc mL ret R E Qc sz k n pc L (.int y :: .int x :: st) h := by
  obtain ⟨off, hd, rfl, ht⟩ := hd
  intro p e s m args below meth c A H locs ls C hE hF hz hh hS hA hl
  exact lv_icmp_le C.1 C.2.1 hd ht (fun z => kt z p e s m args below meth c A H locs ls C hE hF hz hh hS hA hl) (fun z => kf z p e s m args below meth c A H locs ls C hE hF hz hh hS hA hl)
theorem V_if_le {x : Int32} (hd : Db cc pc (fun o => .ifCond .le o) nx tg) (kt : x ≤ 0 → V G l own mn cc mL ret R E Qc sz k n tg L st h) (kf : ¬ (x ≤ 0) → V G l own mn cc mL ret R E Qc sz k n nx L st h) : V G l own mn cc mL ret R E Qc sz k n pc L (.int x :: st) h := by
  obtain ⟨off, hd, rfl, ht⟩ := hd
  intro p e s m args below meth c A H locs ls C hE hF hz hh hS hA hl
  exact lv_if_le C.1 C.2.1 hd ht (fun z => kt z p e s m args below meth c A H locs ls C hE hF hz hh hS hA hl) (fun z => kf z p e s m args below meth c A H locs ls C hE hF hz hh hS hA hl)
end ROWS
