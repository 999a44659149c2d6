/-! THE CLAIM OUT OF ONE WALK OF THE LAW'S BODY. Your part is whole_start (and what it stands on); all else here is the same for every law, but numbers. -/
def lw_P (b : Addr) (xs : List Int32) (args : Array Value) (s : State) : Prop := args = #[.ref b] ∧ s.IntsAt b xs ∧ xs.length ≤ 2048 ∧ (Jvm.Cond.and given_1 narrow_1).before args s = true
def lw_Q (_ : Array Value) (s : State) (o : Outcome) (t : State) : Prop := o = .returned (some (.int 1)) ∧ Framed s o t [] 600000 7302250
def lw_Z (below : List Frame) (a : Array Value) (s : State) : State → Prop := fun t => ∃ o, t.status = .running ∧ Ended t below o ∧ lw_Q a s o t
/-- the law's own end, with 1 on the stack, nothing written that was there before, its room as the claim has it -/
theorem lw_ret {p : Program} {l : Launch} {e : Env} {s : State} {m : MethodId} {below : List Frame} {meth : Method} {c : Code} {b : Nat} (hx : p.tables.exec = Jvm.exec) (hb : c.code = code) (hr : meth.sig.returnType = ret) (hlocks : meth.locks = false) {pc : Nat} {H : Heap} {ls : Array Slot} (hdg : decode code pc = .ok (.ireturn, 1)) : W p l e room_1 s m #[Value.ref b] below meth c H [] 600000 7302250 (lw_Z below #[Value.ref b] s) (F0 m pc ls [.int 1]) := by
  intro T hT X
  obtain ⟨fs, hret, hrun, hended, hW, hframe⟩ := X.leave (v := some (.int 1)) (hlocks := hlocks) (fun h => by rw [hr] at h; cases h)
  have hmeth' : T.vm.method? m = some meth := X.method'
  refine ⟨T.setFrames fs, ?_, .returned (some (.int 1)), hrun, hended, rfl, ⟨_, rfl⟩, hW, hframe⟩
  jvm_step X.here [X.here.top, hx, hb, hdg, hmeth', hr, ret, narrow_b1]
  (try refine ⟨rfl, ?_⟩); (try refine ⟨rfl, ?_⟩)
  first | (intro acts; rw [hret _ acts rfl rfl rfl]) | rw [hret _ _ rfl rfl rfl]
  exact Steps.refl _
/-- what holds at the law's entry: the machine, the code, the tables' words (any of lw_tbl by 'hts w (by decide +kernel)'), the script of L ints xs at the cell b, what the Statement gives of the start (any of its parts by flat_of_before) -/
def lw_At (p : Program) (s : State) (m : MethodId) (meth : Method) (c : Code) (b L : Nat) (xs : Nat → Int32) : Prop :=
  p.tables.exec = Jvm.exec ∧ c.code = code ∧ meth.sig.returnType = ret ∧ c.maxLocals = 4 ∧ s.vm.findClass R_law = some m.cls ∧ (∀ w ∈ lw_tbl, w.before #[Value.ref b] s = true) ∧ va_X b L xs s s.heap ∧ b < s.heap.size ∧ meth.locks = false ∧ (Jvm.Cond.and given_1 narrow_1).before #[Value.ref b] s = true

def EL (b L : Nat) (xs : Nat → Int32) : ET := fun s A args => va_X b L xs s s.heap ∧ b < s.heap.size ∧ ¬ A b ∧ args = #[.ref b] ∧ ∀ q, A q → s.heap.size ≤ q
def QL : QT := fun args s below _ => lw_Z below args s
section ROWSL
variable {G : GT} {l : Launch} {own mn : String} {cc : ByteArray} {mL : Nat} {rt : Option FieldType} {R : Room} {Qc : QT} {sz k n pc nx tg : Nat} {Ls : List (Option Value)} {st : List Value} {h : Hp} {b L : Nat} {xs : Nat → Int32}
theorem V_sld {m : Nat} {i v : Int32} (hd : Dc cc pc .iaload 1 nx) (hi : i = nI m) (hm : m < L) (hL : L < 2147483648) (hv : xs m = v)
    (kk : V G l own mn cc mL rt R (EL b L xs) Qc sz k n nx Ls (.int v :: st) h) : V G l own mn cc mL rt R (EL b L xs) Qc sz k n pc Ls (.int i :: .ref b :: st) h := by
  obtain ⟨hd, rfl⟩ := hd
  subst hi
  subst hv
  intro p e s mt args below meth c A H locs ls C hE hF hz hh hS hA hl
  refine va_sld C.1 C.2.1 hE.1 hE.2.1 hE.2.2.1 hS (vp_in_nI hm hL) hd ?_
  rw [nI_cl (by omega)]
  exact kk p e s mt args below meth c A H locs ls C hE hF hz hh hS hA hl
theorem V_slen (hd : Dc cc pc .arraylength 1 nx)
    (kk : V G l own mn cc mL rt R (EL b L xs) Qc sz k n nx Ls (.int (nI L) :: st) h) : V G l own mn cc mL rt R (EL b L xs) Qc sz k n pc Ls (.ref b :: st) h := by
  obtain ⟨hd, rfl⟩ := hd
  intro p e s mt args below meth c A H locs ls C hE hF hz hh hS hA hl
  exact va_slen C.1 C.2.1 hE.1 hE.2.1 hE.2.2.1 hS hd (kk p e s mt args below meth c A H locs ls C hE hF hz hh hS hA hl)
theorem V_lret (hd : Dc code pc .ireturn 1 nx) (hk : k ≤ 600000) (hn : n ≤ 7302250) : V G l own mn code mL ret room_1 (EL b L xs) QL sz k n pc Ls [.int 1] h := by
  intro p e s mt args below meth c A H locs ls C hE hF hz hh hS hA hl
  obtain ⟨x1, x2, x3, rfl, x5⟩ := hE
  refine va_forget (fun q hq => x5 _ (hS.2.2 q hq)) ?_
  refine W.widen (k := 600000) (n := 7302250) hk hn ?_
  exact lw_ret C.1 C.2.1 C.2.2.2.2.1 C.2.2.2.2.2.1 hd.1
end ROWSL
theorem and31 (x0 : Int32) : ∃ k, k < 32 ∧ x0 &&& 31 = nI k := by
  have e : ∀ y : Int32, y = nI y.toUInt32.toNat := by
    intro y
    apply Int32.toBitVec_inj.mp
    simp [nI, Int32.ofNat]
  refine ⟨(x0 &&& 31).toUInt32.toNat, ?_, ?_⟩
  · have h : (x0 &&& 31).toUInt32.toNat = x0.toUInt32.toNat &&& 31 := by
      rw [Int32.toUInt32_and, UInt32.toNat_and]
      rfl
    rw [h]
    exact Nat.lt_of_le_of_lt Nat.and_le_right (by decide)
  · exact e _
/-- the numbers of the world behind the two constructors -/
def C00 : CT := fun j => if j = 1 then upd (fun _ => 0) 4 (-5) else if j = 18 then upd (fun _ => 0) 4 (-5) else if j = 33 then upd (fun _ => 0) 4 (-5) else if j = 48 then upd (fun _ => 0) 4 (-5) else if j = 63 then upd (fun _ => 0) 4 (-5) else if j = 78 then upd (fun _ => 0) 4 (-5) else if j = 17 then nI else if j = 106 then upd (fun _ => 0) 37 (-5) else fun _ => 0
theorem JE_0 : JE C00 := by
  refine ⟨0, 0, by decide, ⟨fun i hi => ?_, fun i j hi hj h => ?_⟩, rfl, rfl, ⟨⟨⟨0, by decide, rfl, rfl⟩, fun j hj => ?_, ?_⟩, ⟨0, 0, by decide, Or.inl rfl, rfl, rfl, rfl, rfl, fun i hi => absurd hi (by omega)⟩, 0, by decide, rfl, rfl, fun i hi => absurd hi (by omega)⟩, fun i hi => absurd hi (by omega), Or.inl ⟨rfl, rfl⟩, by decide, rfl, rfl, fun j hj => absurd hj (by omega), fun j => rfl⟩
  · show (nI i).toInt.toNat < 4
    rw [nI_toInt (by omega)]
    omega
  · have h' : (nI i).toInt.toNat = (nI j).toInt.toNat := h
    rw [nI_toInt (by omega), nI_toInt (by omega)] at h'
    omega
  · show upd (fun _ => 0) 37 (-5) j = (0 : Int32)
    rw [pk_un (by omega)]
  · exact lt4 rfl rfl rfl rfl
