/-! Rows of V over the memory, calls, returns. -/
theorem va_S.tr {A : Nat → Prop} {H0 H H1 : Heap} {l0 l1 : List Loc} (h : va_S A H0 H l0) (h1 : va_S A H H1 l1) : va_S A H0 H1 l1 :=
  ⟨Nat.le_trans h.1 h1.1, fun q a b => (h1.2.1 q (Nat.lt_of_lt_of_le a h.1) b).trans (h.2.1 q a b), h1.2.2⟩
theorem va_S.at {A : Nat → Prop} {H0 H : Heap} {l0 : List Loc} (h : va_S A H0 H l0) : va_S A H H l0 := ⟨Nat.le_refl _, fun _ _ _ => rfl, h.2.2⟩
def CK (ci : Nat) (C : String) (T : u_T) (ty : Nat → FieldType) (N : Nat) : Prop := vwCl[ci]? = some (C, T, N) ∧ (∀ w ∈ u_ws C T N, w ∈ lw_gtb) ∧ (∀ k, k < N → parseFieldDescriptor (T k).2.2.1 = some (ty k)) ∧ (∀ a, a < N → ∀ b, b < N → a ≠ b → (T a).2.1 ≠ (T b).2.1)
def FL (own : String) (idx ci k : Nat) (ty : FieldType) (fin : Bool) : Prop := ∃ (C : String) (T : u_T) (tyf : Nat → FieldType) (N : Nat), CK ci C T tyf N ∧ k < N ∧ tyf k = ty ∧ (T k).2.2.2 = fin ∧ (T k).1 = C ∧
  (Cond.fieldLink own idx C (T k).2.1 (T k).2.2.1 ∈ lw_gtb ∨ ∃ host, Cond.fieldLinkNest own idx C (T k).2.1 (T k).2.2.1 host ∈ lw_nw)
/-- what a callee needs of the tables -/
def Yk (y : MethodName) (cc : ByteArray) (mL : Nat) (ret : Option FieldType) (n : Nat) : Prop := Cond.code y cc mL ret ∈ lw_gtb ∧ Cond.initialized y.cls ∈ lw_gtb ∧ (y.cls ≠ "java/lang/invoke/MethodHandle" ∧ y.cls ≠ "java/lang/invoke/VarHandle" ∧ (parseMethodDescriptor y.desc).map (fun d => d.parameters.length) = some n)
def LkV (own : String) (idx : Nat) (y : MethodName) : Prop := (Cond.methodLink own idx y ∈ lw_gtb ∨ ∃ host, Cond.methodLinkNest own idx y host ∈ lw_nw) ∧ Cond.instanceMethod y ∈ lw_gtb ∧ Cond.selects y.cls y y ∈ lw_gtb
def LkS (own : String) (idx : Nat) (y : MethodName) : Prop := (Cond.methodLink own idx y ∈ lw_gtb ∨ ∃ host, Cond.methodLinkNest own idx y host ∈ lw_nw) ∧ Cond.static y ∈ lw_gtb
def LkI (own : String) (idx : Nat) (y : MethodName) : Prop := (Cond.methodLink own idx y ∈ lw_gtb ∨ ∃ host, Cond.methodLinkNest own idx y host ∈ lw_nw) ∧ Cond.instanceMethod y ∈ lw_gtb ∧ y.name = "<init>"
theorem SF.narrow {G : GT} {A B : Nat → Prop} {U : State} {H : Heap} (h : SF G A U H) (hAB : ∀ q, B q → A q) : SF G B U H := ⟨h.1, h.2.1.narrow hAB, h.2.2.1.narrow hAB, h.2.2.2⟩
theorem SF.kept {G : GT} {A : Nat → Prop} {U : State} {H H1 : Heap} (h : SF G A U H) (hq : ∀ a : Nat, a < H.size → ¬ A a → H1[a]? = H[a]?) : SF G A U H1 := ⟨h.1, h.2.1.kept hq, h.2.2.1.kept hq, h.2.2.2⟩
theorem SF.warm {G : GT} {A : Nat → Prop} {s U : State} {H : Heap} (hW : s.WarmedH U.vm) (h : SF G A s H) : SF G A U H := ⟨⟨h.1.1.warm hW, h.1.2.moved hW.alike⟩, h.2.1.moved hW.alike, h.2.2.1.moved hW.alike, fun w hw => nest_warm (List.mem_filter.mp hw).2 hW (h.2.2.2 w hw)⟩
theorem SF.calling {G : GT} {A : Nat → Prop} {a : Array Value} {U : State} {H : Heap} {g : JFrame} {mk : MethodId} (h : SF G A U H) : SF G A (U.calling g mk a) H := ⟨⟨vk_R.same rfl h.1.1, h.1.2.moved (Vm.Alike.refl U.vm)⟩, h.2.1.moved (Vm.Alike.refl U.vm), h.2.2.1.moved (Vm.Alike.refl U.vm), fun w hw => va_Nw.same (u := U) (nest_on (List.mem_filter.mp hw).2) rfl (h.2.2.2 w hw)⟩
abbrev iA (G : GT) (n : Nat) (f : Nat → Int32) : va_E := .inl (G.2.1, n, .inl f)
abbrev chA (G : GT) (n : Nat) (f : Nat → Int32) : va_E := .inl (G.2.2.1, n, .inl f)
abbrev sA (G : GT) (n : Nat) (f : Nat → Option Nat) : va_E := .inl (G.2.2.2.1, n, .inr (.inr (.inr (.inr f))))
abbrev ob (ci : Nat) (fs : List Value) : va_E := .inr (ci, fs)
section ROWS2
variable {G : GT} {l : Launch} {own mn : String} {cc : ByteArray} {mL : Nat} {ret : Option FieldType} {R : Room} {E : ET} {Qc : QT} {sz k n pc nx tg : Nat} {L : List (Option Value)} {st : List Value} {h : Hp}
theorem hPre.blind {sz : Nat} {h : Hp} {av : List Value} : FrameBlind (va_Pc av (hPre G sz h)) := by
  intro a U g mk hq
  obtain ⟨q0, q1, q2, q3, q4⟩ := hq
  exact ⟨q0, q1, q2, va_K.moved (u := U) (U := U.calling g mk a) (Vm.Alike.refl U.vm) q3, q4.calling⟩
theorem W_sz {p : Program} {l : Launch} {e : Env} {R : Room} {s : State} {m : MethodId} {args : Array Value} {below : List Frame} {meth : Method} {c : Code} {H : Heap} {locs : List Loc} {cells slots : Nat} {Q : State → Prop} {g : JFrame} (kk : H.size ≤ s.heap.size + cells → W p l e R s m args below meth c H locs cells slots Q g) : W p l e R s m args below meth c H locs cells slots Q g :=
  fun T hT X => kk (by rw [← hT]; exact X.same.2.2.1) T hT X
theorem W_call {p : Program} {l : Launch} {e : Env} {R : Room} {s : State} {m : MethodId} {args : Array Value} {below : List Frame} {meth : Method} {c : Code} {H : Heap} {locs : List Loc} {cells slots mc ms pc : Nat} {Q : State → Prop} {ls : Array Slot} {st0 rest : List Value} {Qa : State → Outcome → State → Prop} {free A : Nat → Prop}
    (hr : va_Run p l e R s m args below meth c H locs cells slots mc ms (F0 m pc ls st0) rest Qa free) (hl : ∀ q ∈ locs, A q.base) (hf : ∀ q, free q → A q)
    (kk : ∀ (v : Option Value) (st₀ t : State) (H1 : Heap) (locs1 : List Loc), st₀.heap = H → t.heap = H1 → s.vm.Alike t.vm → Qa st₀ (.returned v) t → (∀ q ∈ locs1, A q.base) → W p l e R s m args below meth c H1 locs1 (cells + mc) (slots + ms) Q (F0 m (pc + 3) ls (v.toList ++ rest))) : W p l e R s m args below meth c H locs cells slots Q (F0 m pc ls st0) := by
  intro T hT X
  obtain ⟨v, st₀, t, T', L, h0, X', hL, e1, e2, hq, st⟩ := hr T hT X
  obtain ⟨t2, a1, b1⟩ := kk v st₀ t T'.heap (locs ++ L) h0 e1.symm (by rw [← e2]; exact X'.warmed.alike) hq (fun q hq => by
    rcases List.mem_append.mp hq with h | h
    · exact hl q h
    · exact hf _ (hL q h)) T' rfl X'
  exact ⟨t2, st t2 a1, b1⟩
theorem V_get {a idx ci j : Nat} {ty : FieldType} {fin : Bool} {fs : List Value} {v : Value} (hd : Dc cc pc (.getfield idx) 3 nx) (hf : FL own idx ci j ty fin) (he : h a = some (.inr (ci, fs))) (hv : fs[j]? = some v)
    (kk : V G l own mn cc mL ret R E Qc sz k n nx L (v :: st) h) : V G l own mn cc mL ret R E Qc sz k n pc L (.ref a :: st) h := by
  obtain ⟨hd, rfl⟩ := hd
  obtain ⟨C0, T, tyf, N, ⟨hc, hin, -, -⟩, hj, -, -, hT, hk⟩ := hf
  intro p e s m args below meth c A H locs ls C hE hF hz hh hS hA hl
  have kk' := kk p e s m args below meth c A H locs ls C hE hF hz hh hS hA hl
  obtain ⟨ws, hr, hP, hD⟩ := hh
  obtain ⟨q0, hq0⟩ := (hr a _).mp he
  rcases hk with hk | ⟨host, hk⟩
  · exact va_get C.1 C.2.1 C.2.2.2.2.2.2.1 hin C.2.2.2.1 C.2.2.2.2.2.2.2.1 hP q0 hq0 hc j hj (C.2.2.2.2.2.2.1 _ hk) (fun x hx => by rw [hT] at hx; exact hx) hv hd kk'
  · exact va_getN C.1 C.2.1 C.2.2.2.2.2.2.1 hin C.2.2.2.1 C.2.2.2.2.2.2.2.1 hP q0 hq0 hc j hj (va_Nw.use rfl (hF.2.2.2 _ hk)) (fun x hx => by rw [hT] at hx; exact hx) hv hd kk'
theorem V_put {a idx ci j : Nat} {ty : FieldType} {fs fs' : List Value} {v : Value} (hd : Dc cc pc (.putfield idx) 3 nx) (hf : FL own idx ci j ty false) (he : h a = some (.inr (ci, fs))) (hn : narrow ty v = v) (hfit : fits ty v = true) (hj : j < fs.length) (hs : fs.set j v = fs')
    (kk : V G l own mn cc mL ret R E Qc sz k n nx L st (hset h a (.inr (ci, fs')))) : V G l own mn cc mL ret R E Qc sz k n pc L (v :: .ref a :: st) h := by
  obtain ⟨hd, rfl⟩ := hd
  subst hs
  obtain ⟨C0, T, tyf, N, ⟨hc, hin, hty, hnm⟩, hj2, ht, hfin, hT, hk⟩ := hf
  intro p e s m args below meth c A H locs ls C hE hF hz hh hS hA hl
  obtain ⟨ws, hr, hP, hD⟩ := hh
  obtain ⟨q0, hq0⟩ := (hr a _).mp he
  have fin : ∀ (H1 : Heap) (locs1 : List Loc), va_P G.1 vwCl (ws.set q0 (a, .inr (ci, fs.set j v))) H1 → va_D A (ws.set q0 (a, .inr (ci, fs.set j v))) → va_S A H H1 locs1 → W p l e R s m args below meth c H1 locs1 k n (Qc args s below A) (F0 m (pc + 3) ls st) := by
    intro H1 locs1 hP1 hD1 hS1
    refine W_sz (fun hle => ?_)
    have h1 := hS1.1
    exact kk p e s m args below meth c A H1 locs1 ls C hE hF ⟨hz.1, by omega⟩ ⟨_, hRel_set hr hD hq0, hP1, hD1⟩ (hS.tr hS1) hA hl
  rcases hk with hk | ⟨host, hk⟩
  · exact va_put C.1 C.2.1 C.2.2.2.2.2.2.1 hin tyf hty hnm C.2.2.2.1 C.2.2.2.2.2.2.2.1 hP hD hS.at q0 hq0 hc j hj2 (C.2.2.2.2.2.2.1 _ hk) (fun x hx => by rw [hT] at hx; exact hx) hfin (by rw [hty j hj2, ht]) hn hfit hj hd fin
  · exact va_putN C.1 C.2.1 C.2.2.2.2.2.2.1 hin tyf hty hnm C.2.2.2.1 C.2.2.2.2.2.2.2.1 hP hD hS.at q0 hq0 hc j hj2 (va_Nw.use rfl (hF.2.2.2 _ hk)) (fun x hx => by rw [hT] at hx; exact hx) hfin (by rw [hty j hj2, ht]) hn hfit hj hd fin
theorem V_putF {a idx ci j : Nat} {C0 : String} {T : u_T} {tyf : Nat → FieldType} {N : Nat} {fs fs' : List Value} {v : Value} (hd : Dc cc pc (.putfield idx) 3 nx) (hmn : mn = "<init>") (hCK : CK ci own T tyf N) (hj2 : j < N) (hfin : (T j).2.2.2 = true) (hT : (T j).1 = own) (hk : Cond.fieldLink own idx own (T j).2.1 (T j).2.2.1 ∈ lw_gtb) (he : h a = some (.inr (ci, fs))) (hn : narrow (tyf j) v = v) (hfit : fits (tyf j) v = true) (hj : j < fs.length) (hs : fs.set j v = fs')
    (kk : V G l own mn cc mL ret R E Qc sz k n nx L st (hset h a (.inr (ci, fs')))) : V G l own mn cc mL ret R E Qc sz k n pc L (v :: .ref a :: st) h := by
  obtain ⟨hd, rfl⟩ := hd
  subst hs
  obtain ⟨hc, hin, hty, hnm⟩ := hCK
  intro p e s m args below meth c A H locs ls C hE hF hz hh hS hA hl
  obtain ⟨ws, hr, hP, hD⟩ := hh
  obtain ⟨q0, hq0⟩ := (hr a _).mp he
  exact va_putF C.1 C.2.1 C.2.2.2.2.2.2.1 hin tyf hty hnm C.2.2.2.1 C.2.2.2.2.2.2.2.1 hP hD hS.at q0 hq0 hc j hj2 (C.2.2.2.2.2.2.1 _ hk) (fun x hx => by rw [hT] at hx; exact hx) hfin (C.2.2.2.2.2.2.2.2.trans hmn) hT (hty j hj2) hn hfit hj hd (fun H1 locs1 hP1 hD1 hS1 => W_sz (fun hle => by
    have h1 := hS1.1
    exact kk p e s m args below meth c A H1 locs1 ls C hE hF ⟨hz.1, by omega⟩ ⟨_, hRel_set hr hD hq0, hP1, hD1⟩ (hS.tr hS1) hA hl))
theorem V_alen {a : Nat} {cA : ClassId} {x : vp_A} {v : Int32} (hd : Dc cc pc .arraylength 1 nx) (he : h a = some (.inl (cA, x))) (ht : ∃ (t0 : Nat) (ty : FieldType), (gtys G)[t0]? = some (cA, ty)) (hv : Int32.ofNat x.1 = v)
    (kk : V G l own mn cc mL ret R E Qc sz k n nx L (.int v :: st) h) : V G l own mn cc mL ret R E Qc sz k n pc L (.ref a :: st) h := by
  obtain ⟨hd, rfl⟩ := hd
  obtain ⟨t0, ty, ht⟩ := ht
  intro p e s m args below meth c A H locs ls C hE hF hz hh hS hA hl
  have kk' := kk p e s m args below meth c A H locs ls C hE hF hz hh hS hA hl
  obtain ⟨ws, hr, hP, hD⟩ := hh
  obtain ⟨q0, hq0⟩ := (hr a _).mp he
  exact va_alen C.1 C.2.1 C.2.2.2.2.2.2.2.1 hP q0 t0 hq0 ht hv hd kk'
theorem V_aleni {a N : Nat} {f : Nat → Int32} {v : Int32} (hd : Dc cc pc .arraylength 1 nx) (he : h a = some (iA G N f)) (hv : Int32.ofNat N = v)
    (kk : V G l own mn cc mL ret R E Qc sz k n nx L (.int v :: st) h) : V G l own mn cc mL ret R E Qc sz k n pc L (.ref a :: st) h := V_alen hd he ⟨0, .int, rfl⟩ hv kk
theorem V_alenc {a N : Nat} {f : Nat → Int32} {v : Int32} (hd : Dc cc pc .arraylength 1 nx) (he : h a = some (chA G N f)) (hv : Int32.ofNat N = v)
    (kk : V G l own mn cc mL ret R E Qc sz k n nx L (.int v :: st) h) : V G l own mn cc mL ret R E Qc sz k n pc L (.ref a :: st) h := V_alen hd he ⟨1, .char, rfl⟩ hv kk
theorem V_alens {a N : Nat} {f : Nat → Option Nat} {v : Int32} (hd : Dc cc pc .arraylength 1 nx) (he : h a = some (sA G N f)) (hv : Int32.ofNat N = v)
    (kk : V G l own mn cc mL ret R E Qc sz k n nx L (.int v :: st) h) : V G l own mn cc mL ret R E Qc sz k n pc L (.ref a :: st) h := V_alen hd he ⟨2, _, rfl⟩ hv kk
theorem V_iald {a N : Nat} {f : Nat → Int32} {i v : Int32} (hd : Dc cc pc .iaload 1 nx) (he : h a = some (iA G N f)) (hi : vp_in i N) (hv : f i.toNatClampNeg = v)
    (kk : V G l own mn cc mL ret R E Qc sz k n nx L (.int v :: st) h) : V G l own mn cc mL ret R E Qc sz k n pc L (.int i :: .ref a :: st) h := by
  obtain ⟨hd, rfl⟩ := hd
  subst hv
  intro p e s m args below meth c A H locs ls C hE hF hz hh hS hA hl
  have kk' := kk p e s m args below meth c A H locs ls C hE hF hz hh hS hA hl
  obtain ⟨ws, hr, hP, hD⟩ := hh
  obtain ⟨q0, hq0⟩ := (hr a _).mp he
  exact va_iald C.1 C.2.1 C.2.2.2.2.2.2.2.1 hP q0 0 hq0 rfl hi hd kk'
theorem V_cald {a N : Nat} {f : Nat → Int32} {i v : Int32} (hd : Dc cc pc .caload 1 nx) (he : h a = some (chA G N f)) (hi : vp_in i N) (hv : f i.toNatClampNeg = v)
    (kk : V G l own mn cc mL ret R E Qc sz k n nx L (.int v :: st) h) : V G l own mn cc mL ret R E Qc sz k n pc L (.int i :: .ref a :: st) h := by
  obtain ⟨hd, rfl⟩ := hd
  subst hv
  intro p e s m args below meth c A H locs ls C hE hF hz hh hS hA hl
  have kk' := kk p e s m args below meth c A H locs ls C hE hF hz hh hS hA hl
  obtain ⟨ws, hr, hP, hD⟩ := hh
  obtain ⟨q0, hq0⟩ := (hr a _).mp he
  exact va_cald C.1 C.2.1 C.2.2.2.2.2.2.2.1 hP q0 1 hq0 rfl hi hd kk'
theorem V_aald {a N : Nat} {f : Nat → Option Nat} {i : Int32} {v : Value} (hd : Dc cc pc .aaload 1 nx) (he : h a = some (sA G N f)) (hi : vp_in i N) (hv : va_rf (f i.toNatClampNeg) = v)
    (kk : V G l own mn cc mL ret R E Qc sz k n nx L (v :: st) h) : V G l own mn cc mL ret R E Qc sz k n pc L (.int i :: .ref a :: st) h := by
  obtain ⟨hd, rfl⟩ := hd
  subst hv
  intro p e s m args below meth c A H locs ls C hE hF hz hh hS hA hl
  have kk' := kk p e s m args below meth c A H locs ls C hE hF hz hh hS hA hl
  obtain ⟨ws, hr, hP, hD⟩ := hh
  obtain ⟨q0, hq0⟩ := (hr a _).mp he
  exact va_aldq C.1 C.2.1 C.2.2.2.2.2.2.2.1 hP q0 2 hq0 rfl hi hd kk'
theorem V_iast {a N : Nat} {f : Nat → Int32} {i x : Int32} (hd : Dc cc pc .iastore 1 nx) (he : h a = some (iA G N f)) (hi : vp_in i N)
    (kk : V G l own mn cc mL ret R E Qc sz k n nx L st (hset h a (iA G N (upd f i.toNatClampNeg x)))) : V G l own mn cc mL ret R E Qc sz k n pc L (.int x :: .int i :: .ref a :: st) h := by
  obtain ⟨hd, rfl⟩ := hd
  intro p e s m args below meth c A H locs ls C hE hF hz hh hS hA hl
  obtain ⟨ws, hr, hP, hD⟩ := hh
  obtain ⟨q0, hq0⟩ := (hr a _).mp he
  exact va_iast C.1 C.2.1 C.2.2.2.2.2.2.2.1 hP hD hS.at q0 0 hq0 rfl hi hd (fun H1 locs1 hP1 hD1 hS1 => W_sz (fun hle => by
    have h1 := hS1.1
    exact kk p e s m args below meth c A H1 locs1 ls C hE hF ⟨hz.1, by omega⟩ ⟨_, hRel_set hr hD hq0, hP1, hD1⟩ (hS.tr hS1) hA hl))
theorem V_cast {a N : Nat} {f : Nat → Int32} {i x : Int32} (hd : Dc cc pc .castore 1 nx) (he : h a = some (chA G N f)) (hi : vp_in i N)
    (kk : V G l own mn cc mL ret R E Qc sz k n nx L st (hset h a (chA G N (upd f i.toNatClampNeg (vp_nar .char x))))) : V G l own mn cc mL ret R E Qc sz k n pc L (.int x :: .int i :: .ref a :: st) h := by
  obtain ⟨hd, rfl⟩ := hd
  intro p e s m args below meth c A H locs ls C hE hF hz hh hS hA hl
  obtain ⟨ws, hr, hP, hD⟩ := hh
  obtain ⟨q0, hq0⟩ := (hr a _).mp he
  exact va_cast C.1 C.2.1 C.2.2.2.2.2.2.2.1 hP hD hS.at q0 1 hq0 rfl hi hd (fun H1 locs1 hP1 hD1 hS1 => W_sz (fun hle => by
    have h1 := hS1.1
    exact kk p e s m args below meth c A H1 locs1 ls C hE hF ⟨hz.1, by omega⟩ ⟨_, hRel_set hr hD hq0, hP1, hD1⟩ (hS.tr hS1) hA hl))
theorem V_aast {a N v : Nat} {f : Nat → Option Nat} {i : Int32} {vs : List Value} (hd : Dc cc pc .aastore 1 nx) (he : h a = some (sA G N f)) (hi : vp_in i N) (hv : h v = some (.inr (4, vs)))
    (kk : V G l own mn cc mL ret R E Qc sz k n nx L st (hset h a (sA G N (va_up f i.toNatClampNeg (some v))))) : V G l own mn cc mL ret R E Qc sz k n pc L (.ref v :: .int i :: .ref a :: st) h := by
  obtain ⟨hd, rfl⟩ := hd
  intro p e s m args below meth c A H locs ls C hE hF hz hh hS hA hl
  obtain ⟨ws, hr, hP, hD⟩ := hh
  obtain ⟨q0, hq0⟩ := (hr a _).mp he
  obtain ⟨qk, hqk⟩ := (hr v _).mp hv
  exact va_astq C.1 C.2.1 C.2.2.2.2.2.2.2.1 hP hD hS.at q0 2 qk 4 hq0 (r := (RX4, TX4, 8)) rfl hqk rfl hi hd (fun H1 locs1 hP1 hD1 hS1 => W_sz (fun hle => by
    have h1 := hS1.1
    exact kk p e s m args below meth c A H1 locs1 ls C hE hF ⟨hz.1, by omega⟩ ⟨_, hRel_set hr hD hq0, hP1, hD1⟩ (hS.tr hS1) hA hl))

theorem V_iret {Qf : Option Value → Hp → Prop} {v : Int32} {mc ms : Nat} (hd : Dc cc pc .ireturn 1 nx) (hr : ret = some .int) (hk : k = mc) (hn : n = ms) (hq : Qf (some (.int v)) h) : V G l own mn cc mL ret R E (Qm G Qf sz mc ms) sz k n pc L [.int v] h := by
  obtain ⟨hd, -⟩ := hd
  subst hk; subst hn
  intro p e s m args below meth c A H locs ls C hE hF hz hh hS hA hl
  exact W.iret C.1 C.2.1 (C.2.2.2.2.1.trans hr) (fun t ht hW => ⟨_, h, rfl, hq, by rw [ht]; exact hz.2, by rw [ht]; exact hh, va_K.moved hW.alike C.2.2.2.2.2.2.2.1, hS.F ht⟩) hS.2.2 hd C.2.2.2.2.2.1
theorem V_jret {Qf : Option Value → Hp → Prop} {v : Int64} {mc ms : Nat} (hd : Dc cc pc .lreturn 1 nx) (hr : ret = some .long) (hk : k = mc) (hn : n = ms) (hq : Qf (some (.long v)) h) : V G l own mn cc mL ret R E (Qm G Qf sz mc ms) sz k n pc L [.long v] h := by
  obtain ⟨hd, -⟩ := hd
  subst hk; subst hn
  intro p e s m args below meth c A H locs ls C hE hF hz hh hS hA hl
  exact W.lret C.1 C.2.1 (C.2.2.2.2.1.trans hr) (fun t ht hW => ⟨_, h, rfl, hq, by rw [ht]; exact hz.2, by rw [ht]; exact hh, va_K.moved hW.alike C.2.2.2.2.2.2.2.1, hS.F ht⟩) hS.2.2 hd C.2.2.2.2.2.1
theorem V_zret {Qf : Option Value → Hp → Prop} {v : Int32} {mc ms : Nat} {ty : FieldType} (hd : Dc cc pc .ireturn 1 nx) (hr : ret = some ty) (hnw : narrow ty (.int v) = .int v) (hk : k = mc) (hn : n = ms) (hq : Qf (some (.int v)) h) : V G l own mn cc mL ret R E (Qm G Qf sz mc ms) sz k n pc L [.int v] h := by
  obtain ⟨hd, -⟩ := hd
  subst hk; subst hn
  intro p e s m args below meth c A H locs ls C hE hF hz hh hS hA hl
  exact W.zret C.1 C.2.1 (C.2.2.2.2.1.trans hr) hnw (fun t ht hW => ⟨_, h, rfl, hq, by rw [ht]; exact hz.2, by rw [ht]; exact hh, va_K.moved hW.alike C.2.2.2.2.2.2.2.1, hS.F ht⟩) hS.2.2 hd C.2.2.2.2.2.1
theorem V_vret {Qf : Option Value → Hp → Prop} {mc ms : Nat} (hd : Dc cc pc .return_ 1 nx) (hr : ret = none) (hk : k = mc) (hn : n = ms) (hq : Qf none h) : V G l own mn cc mL ret R E (Qm G Qf sz mc ms) sz k n pc L [] h := by
  obtain ⟨hd, -⟩ := hd
  subst hk; subst hn
  intro p e s m args below meth c A H locs ls C hE hF hz hh hS hA hl
  exact W.vret C.1 C.2.1 (C.2.2.2.2.1.trans hr) (fun t ht hW => ⟨_, h, rfl, hq, by rw [ht]; exact hz.2, by rw [ht]; exact hh, va_K.moved hW.alike C.2.2.2.2.2.2.2.1, hS.F ht⟩) hS.2.2 hd C.2.2.2.2.2.1

theorem va_recvH {D : va_G} {A : Nat → Prop} {tys : List (ClassId × FieldType)} {s : State} {H : Heap} {b ci : Nat} {fs : List Value} {C : String} (hK : va_K D vwCl tys s) (hh : HH D A h H) (he : h b = some (.inr (ci, fs))) (hc : (vwCl[ci]?).map (fun q => q.1) = some C) : ∃ cellB : Cell, H[b]? = some cellB ∧ cellB.vm.isStatics = false ∧ s.vm.findClass C = some cellB.cls := by
  obtain ⟨ws, hr, hP, hD⟩ := hh
  obtain ⟨q0, hq0⟩ := (hr b _).mp he
  cases hx : vwCl[ci]? with
  | none => rw [hx] at hc; simp at hc
  | some r =>
    rw [hx] at hc
    simp at hc
    subst hc
    exact va_recv (q0 := q0) hK hP hx hq0
theorem Ax_in {A : Nat → Prop} {H : Heap} {D : va_G} {s : State} {sz : Nat} (hh : HH D A h H) (hA : ∀ q, s.heap.size ≤ q → A q) (hz : s.heap.size ≤ sz) : ∀ q, Ax h sz q → A q := by
  intro q hq
  rcases hq with ⟨e, he⟩ | hq
  · exact hh.in he
  · exact hA q (by omega)
/-- the end of a call: the world behind it -/
theorem V_end {p : Program} {e : Env} {s : State} {m : MethodId} {args : Array Value} {below : List Frame} {meth : Method} {c : Code} {A : Nat → Prop} {H : Heap} {ls : Array Slot} {rest st0 : List Value} {mc' ms' : Nat} {Qf : Option Value → Hp → Prop} {locs : List Loc}
    (C : Cx G own mn cc mL ret p s m args meth c) (hE : E s A args) (hF : SF G A s s.heap) (hz : s.heap.size = sz ∧ H.size = sz + k) (hh : HH G.1 A h H) (hS : va_S A s.heap H locs) (hA : ∀ q, s.heap.size ≤ q → A q) (hl : hasL ls mL L)
    (hr : va_Run p l e R s m args below meth c H locs k n mc' ms' (F0 m pc ls st0) rest (Qpost G Qf (sz + k) mc' (Ax h (sz + k)) args) (Ax h (sz + k))) (hn : pc + 3 = nx)
    (kk : ∀ (r : Option Value) (h' : Hp), Qf r h' → V G l own mn cc mL ret R E Qc sz (k + mc') (n + ms') nx L (r.toList ++ rest) h') : W p l e R s m args below meth c H locs k n (Qc args s below A) (F0 m pc ls st0) := by
  subst hn
  have hAx : ∀ q, Ax h (sz + k) q → A q := Ax_in hh hA (by omega)
  refine W_call hr hS.2.2 hAx (fun v st₀ t H1 locs1 h0 ht hvm hq hl1 => ?_)
  obtain ⟨r, h', e1, e2, e3, e4, e5, e6⟩ := hq
  cases e1
  rw [ht] at e3 e4
  have e6a := e6.1
  have e6b := e6.2
  rw [h0, ht] at e6a
  rw [h0, ht] at e6b
  have hS1 : va_S A H H1 locs1 := ⟨e6a, fun q a b => e6b q a (fun z => b (hAx q z)), hl1⟩
  exact kk _ h' e2 p e s m args below meth c A H1 locs1 ls C hE hF ⟨hz.1, by omega⟩ (e4.weaken hAx) (hS.tr hS1) hA hl
theorem pre_ok {p : Program} {s : State} {m : MethodId} {args : Array Value} {meth : Method} {c : Code} {A : Nat → Prop} {H : Heap} {locs : List Loc}
    (C : Cx G own mn cc mL ret p s m args meth c) (hF : SF G A s s.heap) (hz : s.heap.size = sz ∧ H.size = sz + k) (hh : HH G.1 A h H) (hS : va_S A s.heap H locs) (hA : ∀ q, s.heap.size ≤ q → A q) : ∀ U : State, U.heap = H → s.WarmedH U.vm → hPre G (sz + k) h U := by
  intro U hU hW
  refine ⟨by rw [hU]; exact hz.2, by rw [hU]; exact hh.weaken (fun _ _ => trivial), va_K.moved hW.alike C.2.2.2.2.2.2.2.1, ?_⟩
  have h1 : SF G A s H := hF.kept (fun q a b => hS.2.1 q a b)
  rw [hU]
  exact (h1.narrow (Ax_in hh hA (by omega))).warm hW
theorem V_callV {y : MethodName} {yc : ByteArray} {ymL d' mc' ms' idx b ci : Nat} {yret : Option FieldType} {As rest stk fs : List Value} {Qf : Option Value → Hp → Prop} (hd : Dc cc pc (.invokevirtual idx) 3 nx) (hk : LkV own idx y) (hy : Yk y yc ymL yret As.length) (he : h b = some (.inr (ci, fs))) (hci : (vwCl[ci]?).map (fun q => q.1) = some y.cls)
    (hm : Ct G l y yc ymL yret d' mc' ms' (sz + k) (.ref b :: As) h Qf) (hst : stk = As.reverse ++ .ref b :: rest) (h8 : (rest.map fun v => v.category).sum ≤ 8) (hR : d' + 1 ≤ R.frames ∧ 8 + (ymL + 11) + 31 * d' ≤ R.locals ∧ k + mc' ≤ R.cells ∧ n + ms' ≤ R.slots)
    (kk : ∀ (r : Option Value) (h' : Hp), Qf r h' → V G l own mn cc mL ret R E Qc sz (k + mc') (n + ms') nx L (r.toList ++ rest) h') : V G l own mn cc mL ret R E Qc sz k n pc L stk h := by
  obtain ⟨hd, hn⟩ := hd
  obtain ⟨hk0, hk1, hk2⟩ := hk
  intro p e s m args below meth c A H locs ls C hE hF hz hh hS hA hl
  have tb := C.2.2.2.2.2.2.1
  have hp : PreV s H y.cls b (va_Pc (.ref b :: As) (hPre G (sz + k) h)) As := ⟨hPre.blind, va_recvH C.2.2.2.2.2.2.2.1 hh he hci, fun U hU hW => ⟨rfl, pre_ok C hF hz hh hS hA U hU hW⟩⟩
  refine V_end C hE hF hz hh hS hA hl ?_ hn kk
  rcases hk0 with hk0 | ⟨host, hk0⟩
  · exact va_runV (As := As) (rest := rest) ⟨C.1, C.2.1, C.2.2.1, C.2.2.2.1, tb⟩ hm ⟨callB_of As.length tb (good_wsY hy.1) rfl rfl rfl (tb _ hy.2.1) (tb _ hk0) hy.2.2 ⟨hR.1, hR.2.1⟩, tb _ hk1, tb _ hk2⟩ hp rfl rfl hl.1 hst (lv_room h8) hd hR.2.2
  · exact va_runVN (As := As) (rest := rest) ⟨C.1, C.2.1, C.2.2.1, C.2.2.2.1, tb⟩ hm ⟨va_cnB As.length tb (good_wsY hy.1) rfl rfl rfl (hF.2.2.2 _ hk0) (tb _ hy.2.1) hy.2.2 ⟨hR.1, hR.2.1⟩, tb _ hk1, tb _ hk2⟩ hp rfl rfl hl.1 hst (lv_room h8) hd hR.2.2
theorem V_callS {y : MethodName} {yc : ByteArray} {ymL d' mc' ms' idx : Nat} {yret : Option FieldType} {As rest stk : List Value} {Qf : Option Value → Hp → Prop} (hd : Dc cc pc (.invokestatic idx) 3 nx) (hk : LkS own idx y) (hy : Yk y yc ymL yret As.length)
    (hm : Ct G l y yc ymL yret d' mc' ms' (sz + k) As h Qf) (hst : stk = As.reverse ++ rest) (h8 : (rest.map fun v => v.category).sum ≤ 8) (hR : d' + 1 ≤ R.frames ∧ 8 + (ymL + 11) + 31 * d' ≤ R.locals ∧ k + mc' ≤ R.cells ∧ n + ms' ≤ R.slots)
    (kk : ∀ (r : Option Value) (h' : Hp), Qf r h' → V G l own mn cc mL ret R E Qc sz (k + mc') (n + ms') nx L (r.toList ++ rest) h') : V G l own mn cc mL ret R E Qc sz k n pc L stk h := by
  obtain ⟨hd, hn⟩ := hd
  obtain ⟨hk0, hk1⟩ := hk
  intro p e s m args below meth c A H locs ls C hE hF hz hh hS hA hl
  have tb := C.2.2.2.2.2.2.1
  have hp : PreS s H (va_Pc As (hPre G (sz + k) h)) As := ⟨hPre.blind, fun U hU hW => ⟨rfl, pre_ok C hF hz hh hS hA U hU hW⟩⟩
  refine V_end C hE hF hz hh hS hA hl ?_ hn kk
  rcases hk0 with hk0 | ⟨host, hk0⟩
  · exact va_runS (As := As) (rest := rest) ⟨C.1, C.2.1, C.2.2.1, C.2.2.2.1, tb⟩ hm ⟨callB_of As.length tb (good_wsY hy.1) rfl rfl rfl (tb _ hy.2.1) (tb _ hk0) hy.2.2 ⟨hR.1, hR.2.1⟩, tb _ hk1⟩ hp rfl rfl hl.1 hst (lv_room h8) hd hR.2.2
  · exact va_runSN (As := As) (rest := rest) ⟨C.1, C.2.1, C.2.2.1, C.2.2.2.1, tb⟩ hm ⟨va_cnB As.length tb (good_wsY hy.1) rfl rfl rfl (hF.2.2.2 _ hk0) (tb _ hy.2.1) hy.2.2 ⟨hR.1, hR.2.1⟩, tb _ hk1, trivial⟩ hp rfl rfl hl.1 hst (lv_room h8) hd hR.2.2
theorem V_callI {y : MethodName} {yc : ByteArray} {ymL d' mc' ms' idx b : Nat} {As rest stk : List Value} {Qf : Option Value → Hp → Prop} (hd : Dc cc pc (.invokespecial idx) 3 nx) (hk : LkI own idx y) (hy : Yk y yc ymL none As.length)
    (hm : Ct G l y yc ymL none d' mc' ms' (sz + k) (.ref b :: As) h Qf) (hst : stk = As.reverse ++ .ref b :: rest) (h8 : (rest.map fun v => v.category).sum ≤ 8) (hR : d' + 1 ≤ R.frames ∧ 8 + (ymL + 11) + 31 * d' ≤ R.locals ∧ k + mc' ≤ R.cells ∧ n + ms' ≤ R.slots)
    (kk : ∀ (r : Option Value) (h' : Hp), Qf r h' → V G l own mn cc mL ret R E Qc sz (k + mc') (n + ms') nx L (r.toList ++ rest) h') : V G l own mn cc mL ret R E Qc sz k n pc L stk h := by
  obtain ⟨hd, hn⟩ := hd
  obtain ⟨hk0, hk1, hk2⟩ := hk
  intro p e s m args below meth c A H locs ls C hE hF hz hh hS hA hl
  have tb := C.2.2.2.2.2.2.1
  have hp : PreS s H (va_Pc (.ref b :: As) (hPre G (sz + k) h)) (.ref b :: As) := ⟨hPre.blind, fun U hU hW => ⟨rfl, pre_ok C hF hz hh hS hA U hU hW⟩⟩
  refine V_end C hE hF hz hh hS hA hl ?_ hn kk
  rcases hk0 with hk0 | ⟨host, hk0⟩
  · exact va_runI (As := As) (rest := rest) ⟨C.1, C.2.1, C.2.2.1, C.2.2.2.1, tb⟩ hm ⟨callB_of As.length tb (good_wsY hy.1) rfl rfl rfl (tb _ hy.2.1) (tb _ hk0) hy.2.2 ⟨hR.1, hR.2.1⟩, hk2, tb _ hk1⟩ hp rfl rfl hl.1 hst (lv_room h8) hd hR.2.2
  · exact va_runIN (As := As) (rest := rest) ⟨C.1, C.2.1, C.2.2.1, C.2.2.2.1, tb⟩ hm ⟨va_cnB As.length tb (good_wsY hy.1) rfl rfl rfl (hF.2.2.2 _ hk0) (tb _ hy.2.1) hy.2.2 ⟨hR.1, hR.2.1⟩, hk2, tb _ hk1⟩ hp rfl rfl hl.1 hst (lv_room h8) hd hR.2.2

theorem HH.push {D : va_G} {A : Nat → Prop} {h : Hp} {H H1 : Heap} {a : Nat} {e1 : va_E} (hh : HH D A h H) (ha : H.size = a) (hA : A a) (hq : ∀ q, q < a → H1[q]? = H[q]?) (he : va_at D vwCl (a, e1) H1) : HH D A (hset h a e1) H1 := by
  obtain ⟨ws, hr, hP, hD⟩ := hh
  have hk : ∀ (k : Nat) (x : Nat × va_E), ws[k]? = some x → H1[x.1]? = H[x.1]? := fun k x hx => hq x.1 (by rw [← ha]; exact (hP k x hx).lt)
  refine ⟨ws ++ [(a, e1)], hRel_push hr hP (by omega), (hP.kept hk).app (fun k x hx => ?_), hD.push hP ha.symm hA⟩
  have hz : k < 1 := (List.getElem?_eq_some_iff.mp hx).1
  rw [show k = 0 by omega] at hx
  cases hx
  exact he
theorem V_newi {i : Int32} {N : Nat} (hd : Dc cc pc (.newarray .int) 2 nx) (hN : i.toNatClampNeg = N) (hi : ¬ i < 0) (hb : N * 4 ≤ 536870912) (hc : k + 1 ≤ R.cells) (hs : n + N ≤ R.slots) (hw : Cond.arrayClass .int ∈ lw_gtb)
    (kk : V G l own mn cc mL ret R E Qc sz (k + 1) (n + N) nx L (.ref (sz + k) :: st) (hset h (sz + k) (iA G N (fun _ => 0)))) : V G l own mn cc mL ret R E Qc sz k n pc L (.int i :: st) h := by
  obtain ⟨hd, rfl⟩ := hd
  intro p e s m args below meth c A H locs ls C hE hF hz hh hS hA hl
  refine va_newaK (atype := .int) C.1 C.2.1 (C.2.2.2.2.2.2.1 _ hw) rfl hd rfl hi hN hb hc hs hz.2 (fun H1 cA e1 z1 o1 hAr hNm => ?_)
  have hcA : cA = G.2.1 := by
    have h1 := (C.2.2.2.2.2.2.2.1.2 0 (G.2.1, .int) rfl).2
    exact Option.some.inj (hNm.symm.trans h1)
  subst hcA
  exact kk p e s m args below meth c A H1 locs ls C hE hF ⟨hz.1, by omega⟩ (hh.push hz.2 (hA _ (by omega)) o1 (by
    show H1[sz + k]? = some (vp_cell _ _)
    rw [e1, vp_cell_i]
    rfl)) ⟨by have := hS.1; omega, fun q a b => (o1 q (by omega)).trans (hS.2.1 q a b), hS.2.2⟩ hA hl
theorem V_newc {i : Int32} {N : Nat} (hd : Dc cc pc (.newarray .char) 2 nx) (hN : i.toNatClampNeg = N) (hi : ¬ i < 0) (hb : N * 2 ≤ 536870912) (hc : k + 1 ≤ R.cells) (hs : n + N ≤ R.slots) (hw : Cond.arrayClass .char ∈ lw_gtb)
    (kk : V G l own mn cc mL ret R E Qc sz (k + 1) (n + N) nx L (.ref (sz + k) :: st) (hset h (sz + k) (chA G N (fun _ => 0)))) : V G l own mn cc mL ret R E Qc sz k n pc L (.int i :: st) h := by
  obtain ⟨hd, rfl⟩ := hd
  intro p e s m args below meth c A H locs ls C hE hF hz hh hS hA hl
  refine va_newaK (atype := .char) C.1 C.2.1 (C.2.2.2.2.2.2.1 _ hw) rfl hd rfl hi hN hb hc hs hz.2 (fun H1 cA e1 z1 o1 hAr hNm => ?_)
  have hcA : cA = G.2.2.1 := by
    have h1 := (C.2.2.2.2.2.2.2.1.2 1 (G.2.2.1, .char) rfl).2
    exact Option.some.inj (hNm.symm.trans h1)
  subst hcA
  exact kk p e s m args below meth c A H1 locs ls C hE hF ⟨hz.1, by omega⟩ (hh.push hz.2 (hA _ (by omega)) o1 (by
    show H1[sz + k]? = some (vp_cell _ _)
    rw [e1, vp_cell_i]
    rfl)) ⟨by have := hS.1; omega, fun q a b => (o1 q (by omega)).trans (hS.2.1 q a b), hS.2.2⟩ hA hl
theorem V_new {idx ci N : Nat} {C0 : String} {T : u_T} {tyf : Nat → FieldType} {fs : List Value} (hd : Dc cc pc (.new idx) 3 nx) (hCK : CK ci C0 T tyf N) (h1 : Cond.classLink own idx C0 ∈ lw_gtb) (h2 : Cond.instantiable C0 N ∈ lw_gtb) (h3 : Cond.initialized C0 ∈ lw_gtb) (hfs : ∀ j, j < N → defaultValue (tyf j) = vp_V fs j) (hc : k + 1 ≤ R.cells) (hs : n + N ≤ R.slots)
    (kk : V G l own mn cc mL ret R E Qc sz (k + 1) (n + N) nx L (.ref (sz + k) :: st) (hset h (sz + k) (.inr (ci, fs)))) : V G l own mn cc mL ret R E Qc sz k n pc L st h := by
  obtain ⟨hd, rfl⟩ := hd
  obtain ⟨hc0, hin, hty, hnm⟩ := hCK
  intro p e s m args below meth c A H locs ls C hE hF hz hh hS hA hl
  have tb := C.2.2.2.2.2.2.1
  have hKn := C.2.2.2.2.2.2.2.1.1 ci _ hc0
  refine W.newcK C.1 C.2.1 C.2.2.2.1 (tb _ h1) (tb _ h2) (tb _ h3) rfl hd hc hs hKn.2.1 hz.2 (fun H1 kC hkC e1 z1 o1 => ?_)
  exact kk p e s m args below meth c A H1 locs ls C hE hF ⟨hz.1, by omega⟩ (hh.push hz.2 (hA _ (by omega)) o1 ⟨_, hc0, (u_born tyf tb hin hKn hkC e1 hty).to hfs⟩) ⟨by have := hS.1; omega, fun q a b => (o1 q (by omega)).trans (hS.2.1 q a b), hS.2.2⟩ hA hl
theorem V_anew {idx : Nat} {i : Int32} {N : Nat} (hd : Dc cc pc (.anewarray idx) 3 nx) (h1 : Cond.classLink own idx "TryLoops$State" ∈ lw_gtb) (hN : i.toNatClampNeg = N) (hi : ¬ i < 0) (hb : N * 4 ≤ 536870912) (hc : k + 1 ≤ R.cells) (hs : n + N ≤ R.slots)
    (kk : V G l own mn cc mL ret R E Qc sz (k + 1) (n + N) nx L (.ref (sz + k) :: st) (hset h (sz + k) (sA G N (fun _ => none)))) : V G l own mn cc mL ret R E Qc sz k n pc L (.int i :: st) h := by
  obtain ⟨hd, rfl⟩ := hd
  intro p e s m args below meth c A H locs ls C hE hF hz hh hS hA hl
  have tb := C.2.2.2.2.2.2.1
  have hz2 := hz.2
  subst hN
  refine W.anew C.1 C.2.1 C.2.2.2.1 (tb _ h1) hF.1.2.use rfl hd rfl hi hb hc hs (fun cA kA comp f1 f2 f3 f4 => ?_)
  generalize hH1 : H.push ({ cls := cA, slots := Array.replicate i.toNatClampNeg .null, vm := .none } : Cell) = H1
  have z1 : H1.size = H.size + 1 := by rw [← hH1, Array.size_push]
  have e1 : H1[H.size]? = some (arrV cA i.toNatClampNeg (fun _ => .null)) := by rw [← hH1, Array.getElem?_push_size, ← arrV_new]
  have o1 : ∀ q : Nat, q < H.size → H1[q]? = H[q]? := fun q hq => by rw [← hH1, Array.getElem?_push, if_neg (Nat.ne_of_lt hq)]
  have hcA : cA = G.2.2.2.1 := by
    obtain ⟨kA2, comp2, g1, g2, g3, g4⟩ := (C.2.2.2.2.2.2.2.1.2 2 (G.2.2.2.1, .object "TryLoops$State") rfl).2
    exact Option.some.inj (f1.symm.trans g4)
  subst hcA
  rw [← hz2] at kk
  exact kk p e s m args below meth c A H1 locs ls C hE hF ⟨hz.1, by omega⟩ (hh.push rfl (hA _ (by omega)) o1 (by
    show H1[H.size]? = some (vp_cell _ _)
    rw [e1, vp_cell_q]
    rfl)) ⟨by have := hS.1; omega, fun q a b => (o1 q (by omega)).trans (hS.2.1 q a b), hS.2.2⟩ hA hl
theorem V_oinit {idx a : Nat} (hd : Dc cc pc (.invokespecial idx) 3 nx) (h1 : Cond.methodLink own idx objectInit ∈ lw_gtb) (h2 : Cond.instanceMethod objectInit ∈ lw_gtb) (h3 : Cond.code objectInit ⟨#[0xb1]⟩ 1 none ∈ lw_gtb) (hf : 1 ≤ R.frames) (hl8 : (st.map fun v => v.category).sum + 12 ≤ R.locals)
    (kk : V G l own mn cc mL ret R E Qc sz k n nx L st h) : V G l own mn cc mL ret R E Qc sz k n pc L (.ref a :: st) h := by
  obtain ⟨hd, rfl⟩ := hd
  intro p e s m args below meth c A H locs ls C hE hF hz hh hS hA hl
  have tb := C.2.2.2.2.2.2.1
  refine W.objInit C.1 C.2.1 C.2.2.2.1 (tb _ h1) (tb _ h2) (tb _ h3) rfl (by rw [C.2.2.1]; exact hl.1) rfl hd hf (by show 2 * 0 + _ + 12 ≤ _; omega) ?_
  exact kk p e s m args below meth c A H locs ls C hE hF hz hh hS hA hl
theorem V_max {idx : Nat} {x y : Int32} (hd : Dc cc pc (.invokestatic idx) 3 nx) (h1 : Cond.methodLink own idx Lib.Math.max.name ∈ lw_gtb) (h2 : Cond.static Lib.Math.max.name ∈ lw_gtb) (h3 : Cond.initialized "java/lang/Math" ∈ lw_gtb) (h4 : Cond.code Lib.Math.max.name Lib.Math.max.code 2 (some .int) ∈ lw_gtb) (hf : 1 ≤ R.frames) (hl8 : (st.map fun v => v.category).sum + 13 ≤ R.locals) (hc : k ≤ R.cells) (hs : n ≤ R.slots)
    (kk : V G l own mn cc mL ret R E Qc sz k n nx L (.int (if x < y then y else x) :: st) h) : V G l own mn cc mL ret R E Qc sz k n pc L (.int y :: .int x :: st) h := by
  obtain ⟨hd, rfl⟩ := hd
  intro p e s m args below meth c A H locs ls C hE hF hz hh hS hA hl
  have tb := C.2.2.2.2.2.2.1
  exact va_mmax C.1 C.2.1 (by rw [C.2.2.1]; exact hl.1.symm) C.2.2.2.1 (tb _ h1) (tb _ h2) (tb _ h3) (tb _ h4) hf hl8 hc hs hd (kk p e s m args below meth c A H locs ls C hE hF hz hh hS hA hl)
theorem V_min {idx : Nat} {x y : Int32} (hd : Dc cc pc (.invokestatic idx) 3 nx) (h1 : Cond.methodLink own idx Lib.Math.min.name ∈ lw_gtb) (h2 : Cond.static Lib.Math.min.name ∈ lw_gtb) (h3 : Cond.initialized "java/lang/Math" ∈ lw_gtb) (h4 : Cond.code Lib.Math.min.name Lib.Math.min.code 2 (some .int) ∈ lw_gtb) (hf : 1 ≤ R.frames) (hl8 : (st.map fun v => v.category).sum + 13 ≤ R.locals) (hc : k ≤ R.cells) (hs : n ≤ R.slots)
    (kk : V G l own mn cc mL ret R E Qc sz k n nx L (.int (if y < x then y else x) :: st) h) : V G l own mn cc mL ret R E Qc sz k n pc L (.int y :: .int x :: st) h := by
  obtain ⟨hd, rfl⟩ := hd
  intro p e s m args below meth c A H locs ls C hE hF hz hh hS hA hl
  have tb := C.2.2.2.2.2.2.1
  exact va_mmin C.1 C.2.1 (by rw [C.2.2.1]; exact hl.1.symm) C.2.2.2.1 (tb _ h1) (tb _ h2) (tb _ h3) (tb _ h4) hf hl8 hc hs hd (kk p e s m args below meth c A H locs ls C hE hF hz hh hS hA hl)
theorem V_acopy {idx a0 a n0 n1 : Nat} {f g : Nat → Int32} {sp dp i : Int32} (hd : Dc cc pc (.invokestatic idx) 3 nx) (hk1 : Cond.methodLink own idx arraycopyName ∈ lw_gtb) (hk2 : Cond.native arraycopyName ∈ lw_gtb) (hk3 : Cond.static arraycopyName ∈ lw_gtb) (hk4 : Cond.initialized "java/lang/System" ∈ lw_gtb)
    (he0 : h a0 = some (iA G n0 f)) (he1 : h a = some (iA G n1 g)) (h1 : ¬ sp < 0) (h2 : ¬ dp < 0) (h3 : ¬ i < 0) (h4 : sp.toNatClampNeg + i.toNatClampNeg ≤ n0) (h5 : dp.toNatClampNeg + i.toNatClampNeg ≤ n1) (hf : 1 ≤ R.frames) (hl8 : (st.map fun v => v.category).sum + (nativeFrameWords "java/lang/System" "arraycopy" 5 + 11) ≤ R.locals)
    (kk : V G l own mn cc mL ret R E Qc sz k n nx L st (hset h a (iA G n1 (va_cpy f g sp.toNatClampNeg dp.toNatClampNeg i.toNatClampNeg)))) : V G l own mn cc mL ret R E Qc sz k n pc L (.int i :: .int dp :: .ref a :: .int sp :: .ref a0 :: st) h := by
  obtain ⟨hd, rfl⟩ := hd
  intro p e s m args below meth c A H locs ls C hE hF hz hh hS hA hl
  have tb := C.2.2.2.2.2.2.1
  obtain ⟨ws, hr, hP, hD⟩ := hh
  obtain ⟨q0, hq0⟩ := (hr a0 _).mp he0
  obtain ⟨q1, hq1⟩ := (hr a _).mp he1
  exact va_copyi C.1 C.2.1 (by rw [C.2.2.1]; exact hl.1.symm) C.2.2.2.1 (tb _ hk1) (tb _ hk2) (tb _ hk3) (tb _ hk4) C.2.2.2.2.2.2.2.1 hP hD hS.at q0 q1 0 0 hq0 hq1 rfl rfl rfl h1 h2 h3 h4 h5 (fun _ _ => rfl) hf hl8 hd (fun H1 locs1 hP1 hD1 hS1 => W_sz (fun hle => by
    have h1 := hS1.1
    exact kk p e s m args below meth c A H1 locs1 ls C hE hF ⟨hz.1, by omega⟩ ⟨_, hRel_set hr hD hq1, hP1, hD1⟩ (hS.tr hS1) hA hl))
theorem V_tIn {dflt lo hi : Int} {offs : Array Int} {len : Nat} {x : Int32} {off : Int} (hd : decode cc pc = .ok (.tableswitch dflt lo hi offs, len)) (h1 : ¬ x.toInt < lo) (h2 : ¬ hi < x.toInt) (ho : offs[(x.toInt - lo).toNat]? = some off) (ht : (pc : Int) + off = (tg : Int))
    (kk : V G l own mn cc mL ret R E Qc sz k n tg L st h) : V G l own mn cc mL ret R E Qc sz k n pc L (.int x :: st) h :=
  fun p e s m args below meth c A H locs ls C hE hF hz hh hS hA hl => lv_tableIn C.1 C.2.1 hd h1 h2 ho ht (kk p e s m args below meth c A H locs ls C hE hF hz hh hS hA hl)
theorem V_tOut {dflt lo hi : Int} {offs : Array Int} {len : Nat} {x : Int32} (hd : decode cc pc = .ok (.tableswitch dflt lo hi offs, len)) (h0 : x.toInt < lo ∨ hi < x.toInt) (ht : (pc : Int) + dflt = (tg : Int))
    (kk : V G l own mn cc mL ret R E Qc sz k n tg L st h) : V G l own mn cc mL ret R E Qc sz k n pc L (.int x :: st) h :=
  fun p e s m args below meth c A H locs ls C hE hF hz hh hS hA hl => lv_tableOut C.1 C.2.1 hd h0 ht (kk p e s m args below meth c A H locs ls C hE hF hz hh hS hA hl)
theorem V_look {dflt : Int} {ps : Array (Int × Int)} {len : Nat} {x : Int32} {off : Int} (hd : decode cc pc = .ok (.lookupswitch dflt ps, len)) (hp : (ps.toList.zip (ps.toList.drop 1)).all (fun (a, next) => a.1 < next.1) = true) (ho : Op.lookupswitch.offset ps.toList dflt x.toInt = off) (ht : (pc : Int) + off = (tg : Int))
    (kk : V G l own mn cc mL ret R E Qc sz k n tg L st h) : V G l own mn cc mL ret R E Qc sz k n pc L (.int x :: st) h :=
  fun p e s m args below meth c A H locs ls C hE hF hz hh hS hA hl => lv_lookup C.1 C.2.1 hd hp ho ht (kk p e s m args below meth c A H locs ls C hE hF hz hh hS hA hl)

end ROWS2
