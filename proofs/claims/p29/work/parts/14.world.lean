/-! The world of the law as a block of 115 cells from an address a on: cell j holds kE G a j (C j), where C j is a row of numbers (its scalars, or its array). -/
abbrev CT : Type := Nat → Nat → Int32
def mset (C : CT) (j : Nat) (f : Nat → Int32) : CT := fun i => if i = j then f else C i
theorem mset_s {C : CT} {j : Nat} {f : Nat → Int32} : mset C j f j = f := by simp [mset]
theorem mset_n {C : CT} {j i : Nat} {f : Nat → Int32} (h : i ≠ j) : mset C j f i = C i := by simp [mset, h]
theorem mset_ss {C : CT} {j : Nat} {f g : Nat → Int32} : mset (mset C j f) j g = mset C j g := by
  funext i; unfold mset; split <;> rfl
theorem mset_eta {C : CT} {j : Nat} : mset C j (C j) = C := by
  funext i; unfold mset; split
  · subst_vars; rfl
  · rfl
theorem uus {f : Nat → Int32} {k : Nat} {x y : Int32} : upd (upd f k x) k y = upd f k y := by
  funext j; unfold upd; split <;> rfl
theorem u_eta {f : Nat → Int32} {k : Nat} : upd f k (f k) = f := by
  funext j; unfold upd; split
  · subst_vars; rfl
  · rfl
def shE (G : GT) (a q W : Nat) (f : Nat → Int32) : va_E := .inr (3, [.int (nI W), .ref (a + (q + 1)), .ref (a + (q + 2)), .ref (a + (q + 3)), .ref (a + (q + 4)), .ref (a + (q + 5)), .int (f 0)])
def stE (G : GT) (a s i : Nat) (f : Nat → Int32) : va_E :=
  if i = 0 then .inr (4, [.ref (a + (s + 1)), .ref (a + (s + 3)), .ref (a + (s + 9)), .int (f 0), .int (f 1), .int (f 2), .int (f 3), .int (f 4)])
  else if i = 1 then .inr (2, [.ref (a + (s + 2)), .int (f 0)])
  else if i = 2 then iA G 30 f
  else if i = 3 then shE G a (s + 3) 12 f
  else if i < 7 then iA G 72 f
  else if i < 9 then iA G 6 f
  else if i = 9 then shE G a (s + 9) 12 f
  else if i < 13 then iA G 72 f
  else iA G 6 f
def kE (G : GT) (a j : Nat) (f : Nat → Int32) : va_E :=
  if j = 0 then .inr (6, [.ref (a + 1), .ref (a + 16), .ref (a + 78), .int (f 0), .ref (a + 93), .ref (a + 101), .ref (a + 102), .ref (a + 104)])
  else if j < 16 then stE G a 1 (j - 1) f
  else if j = 16 then .inr (0, [.ref (a + 17), .int (f 0)])
  else if j = 17 then sA G 4 (fun i => some (a + (18 + 15 * (f i).toInt.toNat)))
  else if j < 33 then stE G a 18 (j - 18) f
  else if j < 48 then stE G a 33 (j - 33) f
  else if j < 63 then stE G a 48 (j - 48) f
  else if j < 78 then stE G a 63 (j - 63) f
  else if j < 93 then stE G a 78 (j - 78) f
  else if j = 93 then .inr (5, [.ref (a + 94), .int (f 0), .int (f 1), .ref (a + 95)])
  else if j = 94 then chA G 60 f
  else if j = 95 then shE G a 95 20 f
  else if j < 99 then iA G 400 f
  else if j < 101 then iA G 20 f
  else if j = 101 then .inr (1, [.int (f 0), .int (f 1), .int (f 2)])
  else if j = 102 then .inr (2, [.ref (a + 103), .int (f 0)])
  else if j = 103 then iA G 30 f
  else iA G 13 f
def B (G : GT) (a : Nat) (C : CT) : Hp := fun q => if a ≤ q ∧ q < a + 105 then some (kE G a (q - a) (C (q - a))) else none
theorem B_at {G : GT} {a j : Nat} {C : CT} {e : va_E} (hj : j < 105) (hk : kE G a j (C j) = e) : B G a C (a + j) = some e := by
  have h1 : a ≤ a + j ∧ a + j < a + 105 := by omega
  have h2 : a + j - a = j := by omega
  simp [B, h1, h2, hk]
theorem B_set {G : GT} {a j : Nat} {C : CT} {f : Nat → Int32} {e : va_E} (hj : j < 105) (hk : kE G a j f = e) : hset (B G a C) (a + j) e = B G a (mset C j f) := by
  funext q
  by_cases hq : q = a + j
  · subst hq
    rw [hset_s, B_at hj (e := e) (by rw [mset_s]; exact hk)]
  · rw [hset_n hq]
    unfold B
    by_cases h1 : a ≤ q ∧ q < a + 105
    · rw [if_pos h1, if_pos h1, mset_n (by omega)]
    · rw [if_neg h1, if_neg h1]
def StK (G : GT) (a s : Nat) : Prop := s + 15 ≤ 105 ∧ ∀ (i : Nat) (f : Nat → Int32), i < 15 → kE G a (s + i) f = stE G a s i f
def ShK (G : GT) (a q W N : Nat) : Prop := q + 6 ≤ 105 ∧ W * N ≤ 400 ∧ (∀ f, kE G a q f = shE G a q W f) ∧ (∀ f, kE G a (q + 1) f = iA G (W * N) f) ∧ (∀ f, kE G a (q + 2) f = iA G (W * N) f) ∧ (∀ f, kE G a (q + 3) f = iA G (W * N) f) ∧ (∀ f, kE G a (q + 4) f = iA G N f) ∧ (∀ f, kE G a (q + 5) f = iA G N f) ∧ 0 < N ∧ 0 < W
def RoK (G : GT) (a q : Nat) : Prop := q + 2 ≤ 105 ∧ (∀ f, kE G a q f = .inr (2, [.ref (a + (q + 1)), .int (f 0)])) ∧ (∀ f, kE G a (q + 1) f = iA G 30 f)
theorem StK.sh3 {G : GT} {a s : Nat} (h : StK G a s) : ShK G a (s + 3) 12 6 := by
  refine ⟨by have := h.1; omega, by decide, fun f => ?_, fun f => ?_, fun f => ?_, fun f => ?_, fun f => ?_, fun f => ?_, by decide, by decide⟩
  · rw [h.2 3 f (by decide)]; rfl
  · rw [Nat.add_assoc, h.2 4 f (by decide)]; rfl
  · rw [Nat.add_assoc, h.2 5 f (by decide)]; rfl
  · rw [Nat.add_assoc, h.2 6 f (by decide)]; rfl
  · rw [Nat.add_assoc, h.2 7 f (by decide)]; rfl
  · rw [Nat.add_assoc, h.2 8 f (by decide)]; rfl
theorem StK.sh9 {G : GT} {a s : Nat} (h : StK G a s) : ShK G a (s + 9) 12 6 := by
  refine ⟨by have := h.1; omega, by decide, fun f => ?_, fun f => ?_, fun f => ?_, fun f => ?_, fun f => ?_, fun f => ?_, by decide, by decide⟩
  · rw [h.2 9 f (by decide)]; rfl
  · rw [Nat.add_assoc, h.2 10 f (by decide)]; rfl
  · rw [Nat.add_assoc, h.2 11 f (by decide)]; rfl
  · rw [Nat.add_assoc, h.2 12 f (by decide)]; rfl
  · rw [Nat.add_assoc, h.2 13 f (by decide)]; rfl
  · rw [Nat.add_assoc, h.2 14 f (by decide)]; rfl
theorem StK.ro {G : GT} {a s : Nat} (h : StK G a s) : RoK G a (s + 1) := by
  refine ⟨by have := h.1; omega, fun f => ?_, fun f => ?_⟩
  · rw [h.2 1 f (by decide)]; rfl
  · rw [Nat.add_assoc, h.2 2 f (by decide)]; rfl
theorem StK.o {G : GT} {a s : Nat} (h : StK G a s) (f : Nat → Int32) : kE G a s f = .inr (4, [.ref (a + (s + 1)), .ref (a + (s + 3)), .ref (a + (s + 9)), .int (f 0), .int (f 1), .int (f 2), .int (f 3), .int (f 4)]) := h.2 0 f (by decide)
theorem StK_of {G : GT} {a s : Nat} (h1 : s + 15 ≤ 105) (h2 : ∀ (i : Nat), i < 15 → ∀ f : Nat → Int32, kE G a (s + i) f = stE G a s i f) : StK G a s := ⟨h1, fun i f hi => h2 i hi f⟩
theorem lt15 {P : Nat → Prop} (h0 : P 0) (h1 : P 1) (h2 : P 2) (h3 : P 3) (h4 : P 4) (h5 : P 5) (h6 : P 6) (h7 : P 7) (h8 : P 8) (h9 : P 9) (h10 : P 10) (h11 : P 11) (h12 : P 12) (h13 : P 13) (h14 : P 14) : ∀ i, i < 15 → P i := by
  intro i hi
  match i, hi with
  | 0, _ => exact h0
  | 1, _ => exact h1
  | 2, _ => exact h2
  | 3, _ => exact h3
  | 4, _ => exact h4
  | 5, _ => exact h5
  | 6, _ => exact h6
  | 7, _ => exact h7
  | 8, _ => exact h8
  | 9, _ => exact h9
  | 10, _ => exact h10
  | 11, _ => exact h11
  | 12, _ => exact h12
  | 13, _ => exact h13
  | 14, _ => exact h14
  | n + 15, h => exact absurd h (by omega)
theorem stk1 {G : GT} {a : Nat} : StK G a 1 := StK_of (by decide) (lt15 (fun _ => rfl) (fun _ => rfl) (fun _ => rfl) (fun _ => rfl) (fun _ => rfl) (fun _ => rfl) (fun _ => rfl) (fun _ => rfl) (fun _ => rfl) (fun _ => rfl) (fun _ => rfl) (fun _ => rfl) (fun _ => rfl) (fun _ => rfl) (fun _ => rfl))
theorem stk18 {G : GT} {a : Nat} : StK G a 18 := StK_of (by decide) (lt15 (fun _ => rfl) (fun _ => rfl) (fun _ => rfl) (fun _ => rfl) (fun _ => rfl) (fun _ => rfl) (fun _ => rfl) (fun _ => rfl) (fun _ => rfl) (fun _ => rfl) (fun _ => rfl) (fun _ => rfl) (fun _ => rfl) (fun _ => rfl) (fun _ => rfl))
theorem stk33 {G : GT} {a : Nat} : StK G a 33 := StK_of (by decide) (lt15 (fun _ => rfl) (fun _ => rfl) (fun _ => rfl) (fun _ => rfl) (fun _ => rfl) (fun _ => rfl) (fun _ => rfl) (fun _ => rfl) (fun _ => rfl) (fun _ => rfl) (fun _ => rfl) (fun _ => rfl) (fun _ => rfl) (fun _ => rfl) (fun _ => rfl))
theorem stk48 {G : GT} {a : Nat} : StK G a 48 := StK_of (by decide) (lt15 (fun _ => rfl) (fun _ => rfl) (fun _ => rfl) (fun _ => rfl) (fun _ => rfl) (fun _ => rfl) (fun _ => rfl) (fun _ => rfl) (fun _ => rfl) (fun _ => rfl) (fun _ => rfl) (fun _ => rfl) (fun _ => rfl) (fun _ => rfl) (fun _ => rfl))
theorem stk63 {G : GT} {a : Nat} : StK G a 63 := StK_of (by decide) (lt15 (fun _ => rfl) (fun _ => rfl) (fun _ => rfl) (fun _ => rfl) (fun _ => rfl) (fun _ => rfl) (fun _ => rfl) (fun _ => rfl) (fun _ => rfl) (fun _ => rfl) (fun _ => rfl) (fun _ => rfl) (fun _ => rfl) (fun _ => rfl) (fun _ => rfl))
theorem stk78 {G : GT} {a : Nat} : StK G a 78 := StK_of (by decide) (lt15 (fun _ => rfl) (fun _ => rfl) (fun _ => rfl) (fun _ => rfl) (fun _ => rfl) (fun _ => rfl) (fun _ => rfl) (fun _ => rfl) (fun _ => rfl) (fun _ => rfl) (fun _ => rfl) (fun _ => rfl) (fun _ => rfl) (fun _ => rfl) (fun _ => rfl))
theorem shkT {G : GT} {a : Nat} : ShK G a 95 20 20 := ⟨by decide, by decide, fun _ => rfl, fun _ => rfl, fun _ => rfl, fun _ => rfl, fun _ => rfl, fun _ => rfl, by decide, by decide⟩
theorem rokR {G : GT} {a : Nat} : RoK G a 102 := ⟨by decide, fun _ => rfl, fun _ => rfl⟩
def Rw (G : GT) (a : Nat) (v : Value) (C : CT) : Option Value → Hp → Prop := fun r h' => r = some v ∧ h' = B G a C
def Rwu (G : GT) (a : Nat) (C : CT) : Option Value → Hp → Prop := fun r h' => r = none ∧ h' = B G a C
theorem Rw_i {G : GT} {a : Nat} {x y : Int32} {C C' : CT} (e : x = y) (e2 : C = C') : Rw G a (.int y) C' (some (.int x)) (B G a C) := ⟨by rw [e], by rw [e2]⟩
theorem Rwu_i {G : GT} {a : Nat} {C C' : CT} (e2 : C = C') : Rwu G a C' none (B G a C) := ⟨rfl, by rw [e2]⟩
/-! numbers as nI -/
theorem nadd {x y : Int32} {m n : Nat} (hx : x = nI m) (hy : y = nI n) : x + y = nI (m + n) := by rw [hx, hy, nI_add]
theorem nmul {x y : Int32} {m n : Nat} (hx : x = nI m) (hy : y = nI n) : x * y = nI (m * n) := by rw [hx, hy, pk_mul]
theorem nsub {x y : Int32} {m n : Nat} (hx : x = nI m) (hy : y = nI n) (h : n ≤ m) : x - y = nI (m - n) := by rw [hx, hy, pk_sub h]
theorem nI_cl {n : Nat} (h : n < 2147483648) : (nI n).toNatClampNeg = n := nI_clamp h
theorem nle {a b : Nat} (ha : a < 2147483648) (hb : b < 2147483648) : nI a ≤ nI b ↔ a ≤ b := nI_leI ha hb
theorem nlt {a b : Nat} (ha : a < 2147483648) (hb : b < 2147483648) : nI a < nI b ↔ a < b := nI_ltI ha hb
theorem neq {a b : Nat} (ha : a < 2147483648) (hb : b < 2147483648) : nI a = nI b ↔ a = b := nI_eq ha hb
theorem cle {x y : Int32} {m n : Nat} (hx : x = nI m) (hy : y = nI n) (hm : m < 2147483648) (hn : n < 2147483648) : x ≤ y ↔ m ≤ n := by rw [hx, hy]; exact nle hm hn
theorem clt {x y : Int32} {m n : Nat} (hx : x = nI m) (hy : y = nI n) (hm : m < 2147483648) (hn : n < 2147483648) : x < y ↔ m < n := by rw [hx, hy]; exact nlt hm hn
theorem ceq {x y : Int32} {m n : Nat} (hx : x = nI m) (hy : y = nI n) (hm : m < 2147483648) (hn : n < 2147483648) : x = y ↔ m = n := by rw [hx, hy]; exact neq hm hn
theorem nlit {n : Nat} : (OfNat.ofNat n : Int32) = nI (OfNat.ofNat n) := rfl
theorem ninc (n : Nat) : nI n + Int32.ofInt 1 = nI (n + 1) := nI_1 n
section ROWS4
variable {G : GT} {l : Launch} {own mn : String} {cc : ByteArray} {mL : Nat} {ret : Option FieldType} {R : Room} {E : ET} {Qc : QT} {sz k n pc nx tg : Nat} {L : List (Option Value)} {st : List Value} {a : Nat} {C : CT}
theorem V_bget {j idx ci i : Nat} {ty : FieldType} {fin : Bool} {fs : List Value} {v : Value} (hd : Dc cc pc (.getfield idx) 3 nx) (hf : FL own idx ci i ty fin) (hj : j < 105) (hk : kE G a j (C j) = .inr (ci, fs)) (hv : fs[i]? = some v)
    (kk : V G l own mn cc mL ret R E Qc sz k n nx L (v :: st) (B G a C)) : V G l own mn cc mL ret R E Qc sz k n pc L (.ref (a + j) :: st) (B G a C) := V_get hd hf (B_at hj hk) hv kk
theorem V_bput {j idx ci i : Nat} {ty : FieldType} {fs : List Value} {v : Value} {f : Nat → Int32} (hd : Dc cc pc (.putfield idx) 3 nx) (hf : FL own idx ci i ty false) (hj : j < 105) (hk : kE G a j (C j) = .inr (ci, fs)) (hn : narrow ty v = v) (hfit : fits ty v = true) (hi : i < fs.length) (hs : kE G a j f = .inr (ci, fs.set i v))
    (kk : V G l own mn cc mL ret R E Qc sz k n nx L st (B G a (mset C j f))) : V G l own mn cc mL ret R E Qc sz k n pc L (v :: .ref (a + j) :: st) (B G a C) :=
  V_put hd hf (B_at hj hk) hn hfit hi rfl (by rw [B_set hj hs]; exact kk)
theorem V_bputi {j idx ci i i0 : Nat} {ty : FieldType} {fs : List Value} {x : Int32} (hd : Dc cc pc (.putfield idx) 3 nx) (hf : FL own idx ci i ty false) (hj : j < 105) (hk : kE G a j (C j) = .inr (ci, fs)) (hn : narrow ty (.int x) = .int x) (hfit : fits ty (.int x) = true) (hi : i < fs.length) (hs : kE G a j (upd (C j) i0 x) = .inr (ci, fs.set i (.int x)))
    (kk : V G l own mn cc mL ret R E Qc sz k n nx L st (B G a (mset C j (upd (C j) i0 x)))) : V G l own mn cc mL ret R E Qc sz k n pc L (.int x :: .ref (a + j) :: st) (B G a C) := V_bput hd hf hj hk hn hfit hi hs kk
theorem V_balen {j N : Nat} {f : Nat → Int32} {v : Int32} (hd : Dc cc pc .arraylength 1 nx) (hj : j < 105) (hk : kE G a j (C j) = iA G N f) (hv : Int32.ofNat N = v)
    (kk : V G l own mn cc mL ret R E Qc sz k n nx L (.int v :: st) (B G a C)) : V G l own mn cc mL ret R E Qc sz k n pc L (.ref (a + j) :: st) (B G a C) := V_aleni hd (B_at hj hk) hv kk
theorem V_biald {j N m : Nat} {i v : Int32} (hd : Dc cc pc .iaload 1 nx) (hj : j < 105) (hk : kE G a j (C j) = iA G N (C j)) (hi : i = nI m) (hm : m < N) (hN : N < 2147483648) (hv : C j m = v)
    (kk : V G l own mn cc mL ret R E Qc sz k n nx L (.int v :: st) (B G a C)) : V G l own mn cc mL ret R E Qc sz k n pc L (.int i :: .ref (a + j) :: st) (B G a C) := by
  subst hi
  exact V_iald hd (B_at hj hk) (vp_in_nI hm (by omega)) (by rw [nI_cl (by omega)]; exact hv) kk
theorem V_bcald {j N m : Nat} {i v : Int32} (hd : Dc cc pc .caload 1 nx) (hj : j < 105) (hk : kE G a j (C j) = chA G N (C j)) (hi : i = nI m) (hm : m < N) (hN : N < 2147483648) (hv : C j m = v)
    (kk : V G l own mn cc mL ret R E Qc sz k n nx L (.int v :: st) (B G a C)) : V G l own mn cc mL ret R E Qc sz k n pc L (.int i :: .ref (a + j) :: st) (B G a C) := by
  subst hi
  exact V_cald hd (B_at hj hk) (vp_in_nI hm (by omega)) (by rw [nI_cl (by omega)]; exact hv) kk
theorem V_biast {j N m : Nat} {i x : Int32} (hd : Dc cc pc .iastore 1 nx) (hj : j < 105) (hk : ∀ f, kE G a j f = iA G N f) (hi : i = nI m) (hm : m < N) (hN : N < 2147483648)
    (kk : V G l own mn cc mL ret R E Qc sz k n nx L st (B G a (mset C j (upd (C j) m x)))) : V G l own mn cc mL ret R E Qc sz k n pc L (.int x :: .int i :: .ref (a + j) :: st) (B G a C) := by
  subst hi
  refine V_iast hd (B_at hj (hk _)) (vp_in_nI hm (by omega)) ?_
  rw [nI_cl (by omega), B_set hj (hk _)]
  exact kk
theorem V_bcast {j N m : Nat} {i x y : Int32} (hd : Dc cc pc .castore 1 nx) (hj : j < 105) (hk : ∀ f, kE G a j f = chA G N f) (hi : i = nI m) (hm : m < N) (hN : N < 2147483648) (hy : vp_nar .char x = y)
    (kk : V G l own mn cc mL ret R E Qc sz k n nx L st (B G a (mset C j (upd (C j) m y)))) : V G l own mn cc mL ret R E Qc sz k n pc L (.int x :: .int i :: .ref (a + j) :: st) (B G a C) := by
  subst hi
  refine V_cast hd (B_at hj (hk _)) (vp_in_nI hm (by omega)) ?_
  rw [nI_cl (by omega), hy, B_set hj (hk _)]
  exact kk
theorem V_callVw {y : MethodName} {yc : ByteArray} {ymL d' idx j ci : Nat} {yret : Option FieldType} {As rest stk fs : List Value} {v : Value} {C' : CT} (hd : Dc cc pc (.invokevirtual idx) 3 nx) (hk : LkV own idx y) (hy : Yk y yc ymL yret As.length) (hj : j < 105) (he : kE G a j (C j) = .inr (ci, fs)) (hci : (vwCl[ci]?).map (fun q => q.1) = some y.cls)
    (hm : Ct G l y yc ymL yret d' 0 0 (sz + k) (.ref (a + j) :: As) (B G a C) (Rw G a v C')) (hst : stk = As.reverse ++ .ref (a + j) :: rest) (h8 : (rest.map fun v => v.category).sum ≤ 8) (hR : d' + 1 ≤ R.frames ∧ 8 + (ymL + 11) + 31 * d' ≤ R.locals ∧ k + 0 ≤ R.cells ∧ n + 0 ≤ R.slots)
    (kk : V G l own mn cc mL ret R E Qc sz k n nx L (v :: rest) (B G a C')) : V G l own mn cc mL ret R E Qc sz k n pc L stk (B G a C) :=
  V_callV hd hk hy (B_at hj he) hci hm hst h8 hR (fun r h' q => by obtain ⟨rfl, rfl⟩ := q; exact kk)
theorem V_callVu {y : MethodName} {yc : ByteArray} {ymL d' idx j ci : Nat} {yret : Option FieldType} {As rest stk fs : List Value} {C' : CT} (hd : Dc cc pc (.invokevirtual idx) 3 nx) (hk : LkV own idx y) (hy : Yk y yc ymL yret As.length) (hj : j < 105) (he : kE G a j (C j) = .inr (ci, fs)) (hci : (vwCl[ci]?).map (fun q => q.1) = some y.cls)
    (hm : Ct G l y yc ymL yret d' 0 0 (sz + k) (.ref (a + j) :: As) (B G a C) (Rwu G a C')) (hst : stk = As.reverse ++ .ref (a + j) :: rest) (h8 : (rest.map fun v => v.category).sum ≤ 8) (hR : d' + 1 ≤ R.frames ∧ 8 + (ymL + 11) + 31 * d' ≤ R.locals ∧ k + 0 ≤ R.cells ∧ n + 0 ≤ R.slots)
    (kk : V G l own mn cc mL ret R E Qc sz k n nx L rest (B G a C')) : V G l own mn cc mL ret R E Qc sz k n pc L stk (B G a C) :=
  V_callV hd hk hy (B_at hj he) hci hm hst h8 hR (fun r h' q => by obtain ⟨rfl, rfl⟩ := q; exact kk)
theorem V_callSw {y : MethodName} {yc : ByteArray} {ymL d' idx : Nat} {yret : Option FieldType} {As rest stk : List Value} {v : Value} {C' : CT} (hd : Dc cc pc (.invokestatic idx) 3 nx) (hk : LkS own idx y) (hy : Yk y yc ymL yret As.length)
    (hm : Ct G l y yc ymL yret d' 0 0 (sz + k) As (B G a C) (Rw G a v C')) (hst : stk = As.reverse ++ rest) (h8 : (rest.map fun v => v.category).sum ≤ 8) (hR : d' + 1 ≤ R.frames ∧ 8 + (ymL + 11) + 31 * d' ≤ R.locals ∧ k + 0 ≤ R.cells ∧ n + 0 ≤ R.slots)
    (kk : V G l own mn cc mL ret R E Qc sz k n nx L (v :: rest) (B G a C')) : V G l own mn cc mL ret R E Qc sz k n pc L stk (B G a C) :=
  V_callS hd hk hy hm hst h8 hR (fun r h' q => by obtain ⟨rfl, rfl⟩ := q; exact kk)
theorem V_callSu {y : MethodName} {yc : ByteArray} {ymL d' idx : Nat} {yret : Option FieldType} {As rest stk : List Value} {C' : CT} (hd : Dc cc pc (.invokestatic idx) 3 nx) (hk : LkS own idx y) (hy : Yk y yc ymL yret As.length)
    (hm : Ct G l y yc ymL yret d' 0 0 (sz + k) As (B G a C) (Rwu G a C')) (hst : stk = As.reverse ++ rest) (h8 : (rest.map fun v => v.category).sum ≤ 8) (hR : d' + 1 ≤ R.frames ∧ 8 + (ymL + 11) + 31 * d' ≤ R.locals ∧ k + 0 ≤ R.cells ∧ n + 0 ≤ R.slots)
    (kk : V G l own mn cc mL ret R E Qc sz k n nx L rest (B G a C')) : V G l own mn cc mL ret R E Qc sz k n pc L stk (B G a C) :=
  V_callS hd hk hy hm hst h8 hR (fun r h' q => by obtain ⟨rfl, rfl⟩ := q; exact kk)
end ROWS4
