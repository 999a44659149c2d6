/-! Small words: truth as a number, results that read, calls that read. -/
def bI (p : Prop) [Decidable p] : Int32 := if p then 1 else 0
theorem bI_t {p : Prop} [Decidable p] (h : p) : bI p = 1 := if_pos h
theorem bI_f {p : Prop} [Decidable p] (h : ¬ p) : bI p = 0 := if_neg h
theorem bI_nar {p : Prop} [Decidable p] : narrow .boolean (.int (bI p)) = .int (bI p) := by
  unfold bI; split <;> rfl
theorem bI_fit {p : Prop} [Decidable p] : fits .boolean (.int (bI p)) = true := by
  unfold bI; split <;> rfl
theorem bI_0 {p : Prop} [Decidable p] : bI p = 0 ↔ ¬ p := by
  unfold bI; split <;> simp_all
theorem bI_ne0 {p : Prop} [Decidable p] : ¬ bI p = 0 ↔ p := by
  unfold bI; split <;> simp_all
def Rd (v : Value) (h : Hp) : Option Value → Hp → Prop := fun r h' => r = some v ∧ h' = h
def Ru (h1 : Hp) : Option Value → Hp → Prop := fun r h' => r = none ∧ h' = h1
def Rv (P : Hp → Prop) : Option Value → Hp → Prop := fun r h' => r = none ∧ P h'
def Ri (P : Int32 → Hp → Prop) : Option Value → Hp → Prop := fun r h' => ∃ x : Int32, r = some (.int x) ∧ P x h'
theorem Rd_i {x y : Int32} {h : Hp} (e : x = y) : Rd (.int y) h (some (.int x)) h := ⟨by rw [e], rfl⟩
section ROWS3
variable {G : GT} {l : Launch} {own mn : String} {cc : ByteArray} {mL : Nat} {ret : Option FieldType} {R : Room} {E : ET} {Qc : QT} {sz k n pc nx tg : Nat} {L : List (Option Value)} {st : List Value} {h : Hp}
theorem V_callVr {y : MethodName} {yc : ByteArray} {ymL d' idx b ci : Nat} {yret : Option FieldType} {As rest stk fs : List Value} {v : Value} (hd : Dc cc pc (.invokevirtual idx) 3 nx) (hk : LkV own idx y) (hy : Yk y yc ymL yret As.length) (he : h b = some (.inr (ci, fs))) (hci : (vwCl[ci]?).map (fun q => q.1) = some y.cls)
    (hm : Ct G l y yc ymL yret d' 0 0 (sz + k) (.ref b :: As) h (Rd v h)) (hst : stk = As.reverse ++ .ref b :: rest) (h8 : (rest.map fun v => v.category).sum ≤ 8) (hR : d' + 1 ≤ R.frames ∧ 8 + (ymL + 11) + 31 * d' ≤ R.locals ∧ k + 0 ≤ R.cells ∧ n + 0 ≤ R.slots)
    (kk : V G l own mn cc mL ret R E Qc sz k n nx L (v :: rest) h) : V G l own mn cc mL ret R E Qc sz k n pc L stk h :=
  V_callV hd hk hy he hci hm hst h8 hR (fun r h' q => by obtain ⟨rfl, rfl⟩ := q; exact kk)
theorem V_callSr {y : MethodName} {yc : ByteArray} {ymL d' idx : Nat} {yret : Option FieldType} {As rest stk : List Value} {v : Value} (hd : Dc cc pc (.invokestatic idx) 3 nx) (hk : LkS own idx y) (hy : Yk y yc ymL yret As.length)
    (hm : Ct G l y yc ymL yret d' 0 0 (sz + k) As h (Rd v h)) (hst : stk = As.reverse ++ rest) (h8 : (rest.map fun v => v.category).sum ≤ 8) (hR : d' + 1 ≤ R.frames ∧ 8 + (ymL + 11) + 31 * d' ≤ R.locals ∧ k + 0 ≤ R.cells ∧ n + 0 ≤ R.slots)
    (kk : V G l own mn cc mL ret R E Qc sz k n nx L (v :: rest) h) : V G l own mn cc mL ret R E Qc sz k n pc L stk h :=
  V_callS hd hk hy hm hst h8 hR (fun r h' q => by obtain ⟨rfl, rfl⟩ := q; exact kk)
end ROWS3
/-! Numbers: Int32 as Int. -/
theorem i_lt {x y : Int32} : x < y ↔ x.toInt < y.toInt := Int32.lt_iff_toInt_lt
theorem i_le {x y : Int32} : x ≤ y ↔ x.toInt ≤ y.toInt := Int32.le_iff_toInt_le
theorem i_eq {x y : Int32} : x = y ↔ x.toInt = y.toInt := ⟨fun h => by rw [h], fun h => Int32.toInt_inj.mp h⟩
theorem nIt {n : Nat} (h : n < 2147483648) : (nI n).toInt = (n : Int) := nI_toInt h
/-- a number that is in [0, N): as nI -/
theorem nI_ex {x : Int32} (h : 0 ≤ x.toInt) : x = nI x.toInt.toNat := by
  have h2 := Int32.toInt_lt x
  rw [i_eq, nI_toInt (by omega)]
  omega
