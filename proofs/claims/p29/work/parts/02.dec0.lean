/-- an instruction, its place and the next one's -/
def Dc (cc : ByteArray) (pc : Nat) (i : Instr) (len nx : Nat) : Prop := decode cc pc = .ok (i, len) ∧ pc + len = nx
def Db (cc : ByteArray) (pc : Nat) (i : Int → Instr) (nx tg : Nat) : Prop := ∃ off : Int, decode cc pc = .ok (i off, 3) ∧ pc + 3 = nx ∧ (pc : Int) + off = (tg : Int)
theorem DX0_init_c0 : decode cX0_init 0 = .ok (.aload_n 0, 1) ∧ decode cX0_init 1 = .ok (.invokespecial 3, 3) ∧ decode cX0_init 4 = .ok (.aload_n 0, 1) ∧ decode cX0_init 5 = .ok (.iconst 4, 1) ∧ decode cX0_init 6 = .ok (.anewarray 9, 3) ∧ decode cX0_init 9 = .ok (.putfield 11, 3) ∧ decode cX0_init 12 = .ok (.iconst 0, 1) ∧ decode cX0_init 13 = .ok (.istore_n 1, 1) ∧ decode cX0_init 14 = .ok (.iload_n 1, 1) ∧ decode cX0_init 15 = .ok (.aload_n 0, 1) ∧ decode cX0_init 16 = .ok (.getfield 11, 3) ∧ decode cX0_init 19 = .ok (.arraylength, 1) ∧ decode cX0_init 20 = .ok (.if_icmp .ge 22, 3) ∧ decode cX0_init 23 = .ok (.aload_n 0, 1) ∧ decode cX0_init 24 = .ok (.getfield 11, 3) ∧ decode cX0_init 27 = .ok (.iload_n 1, 1) := by decide +kernel
theorem dX0_init_0 : Dc cX0_init 0 (.aload_n 0) 1 1 := ⟨DX0_init_c0.1, rfl⟩
theorem dX0_init_1 : Dc cX0_init 1 (.invokespecial 3) 3 4 := ⟨DX0_init_c0.2.1, rfl⟩
theorem dX0_init_4 : Dc cX0_init 4 (.aload_n 0) 1 5 := ⟨DX0_init_c0.2.2.1, rfl⟩
theorem dX0_init_5 : Dc cX0_init 5 (.iconst 4) 1 6 := ⟨DX0_init_c0.2.2.2.1, rfl⟩
theorem dX0_init_6 : Dc cX0_init 6 (.anewarray 9) 3 9 := ⟨DX0_init_c0.2.2.2.2.1, rfl⟩
theorem dX0_init_9 : Dc cX0_init 9 (.putfield 11) 3 12 := ⟨DX0_init_c0.2.2.2.2.2.1, rfl⟩
theorem dX0_init_12 : Dc cX0_init 12 (.iconst 0) 1 13 := ⟨DX0_init_c0.2.2.2.2.2.2.1, rfl⟩
theorem dX0_init_13 : Dc cX0_init 13 (.istore_n 1) 1 14 := ⟨DX0_init_c0.2.2.2.2.2.2.2.1, rfl⟩
theorem dX0_init_14 : Dc cX0_init 14 (.iload_n 1) 1 15 := ⟨DX0_init_c0.2.2.2.2.2.2.2.2.1, rfl⟩
theorem dX0_init_15 : Dc cX0_init 15 (.aload_n 0) 1 16 := ⟨DX0_init_c0.2.2.2.2.2.2.2.2.2.1, rfl⟩
theorem dX0_init_16 : Dc cX0_init 16 (.getfield 11) 3 19 := ⟨DX0_init_c0.2.2.2.2.2.2.2.2.2.2.1, rfl⟩
theorem dX0_init_19 : Dc cX0_init 19 (.arraylength) 1 20 := ⟨DX0_init_c0.2.2.2.2.2.2.2.2.2.2.2.1, rfl⟩
theorem dX0_init_20 : Db cX0_init 20 (fun o => .if_icmp .ge o) 23 42 := ⟨22, DX0_init_c0.2.2.2.2.2.2.2.2.2.2.2.2.1, rfl, rfl⟩
theorem dX0_init_23 : Dc cX0_init 23 (.aload_n 0) 1 24 := ⟨DX0_init_c0.2.2.2.2.2.2.2.2.2.2.2.2.2.1, rfl⟩
theorem dX0_init_24 : Dc cX0_init 24 (.getfield 11) 3 27 := ⟨DX0_init_c0.2.2.2.2.2.2.2.2.2.2.2.2.2.2.1, rfl⟩
theorem dX0_init_27 : Dc cX0_init 27 (.iload_n 1) 1 28 := ⟨DX0_init_c0.2.2.2.2.2.2.2.2.2.2.2.2.2.2.2, rfl⟩
theorem DX0_init_c1 : decode cX0_init 28 = .ok (.new 9, 3) ∧ decode cX0_init 31 = .ok (.dup, 1) ∧ decode cX0_init 32 = .ok (.invokespecial 17, 3) ∧ decode cX0_init 35 = .ok (.aastore, 1) ∧ decode cX0_init 36 = .ok (.iinc 1 1, 3) ∧ decode cX0_init 39 = .ok (.goto (-25), 3) ∧ decode cX0_init 42 = .ok (.return_, 1) := by decide +kernel
theorem dX0_init_28 : Dc cX0_init 28 (.new 9) 3 31 := ⟨DX0_init_c1.1, rfl⟩
theorem dX0_init_31 : Dc cX0_init 31 (.dup) 1 32 := ⟨DX0_init_c1.2.1, rfl⟩
theorem dX0_init_32 : Dc cX0_init 32 (.invokespecial 17) 3 35 := ⟨DX0_init_c1.2.2.1, rfl⟩
theorem dX0_init_35 : Dc cX0_init 35 (.aastore) 1 36 := ⟨DX0_init_c1.2.2.2.1, rfl⟩
theorem dX0_init_36 : Dc cX0_init 36 (.iinc 1 1) 3 39 := ⟨DX0_init_c1.2.2.2.2.1, rfl⟩
theorem dX0_init_39 : Db cX0_init 39 .goto 42 14 := ⟨-25, DX0_init_c1.2.2.2.2.2.1, rfl, rfl⟩
theorem dX0_init_42 : Dc cX0_init 42 (.return_) 1 43 := ⟨DX0_init_c1.2.2.2.2.2.2, rfl⟩
theorem DX0_push_c0 : decode cX0_push 0 = .ok (.aload_n 0, 1) ∧ decode cX0_push 1 = .ok (.getfield 18, 3) ∧ decode cX0_push 4 = .ok (.aload_n 0, 1) ∧ decode cX0_push 5 = .ok (.getfield 11, 3) ∧ decode cX0_push 8 = .ok (.arraylength, 1) ∧ decode cX0_push 9 = .ok (.if_icmp .lt 7, 3) ∧ decode cX0_push 12 = .ok (.aload_n 0, 1) ∧ decode cX0_push 13 = .ok (.invokevirtual 22, 3) ∧ decode cX0_push 16 = .ok (.aload_n 0, 1) ∧ decode cX0_push 17 = .ok (.getfield 18, 3) ∧ decode cX0_push 20 = .ok (.ifCond .lt 50, 3) ∧ decode cX0_push 23 = .ok (.aload_n 0, 1) ∧ decode cX0_push 24 = .ok (.getfield 18, 3) ∧ decode cX0_push 27 = .ok (.aload_n 0, 1) ∧ decode cX0_push 28 = .ok (.getfield 11, 3) ∧ decode cX0_push 31 = .ok (.arraylength, 1) := by decide +kernel
theorem dX0_push_0 : Dc cX0_push 0 (.aload_n 0) 1 1 := ⟨DX0_push_c0.1, rfl⟩
theorem dX0_push_1 : Dc cX0_push 1 (.getfield 18) 3 4 := ⟨DX0_push_c0.2.1, rfl⟩
theorem dX0_push_4 : Dc cX0_push 4 (.aload_n 0) 1 5 := ⟨DX0_push_c0.2.2.1, rfl⟩
theorem dX0_push_5 : Dc cX0_push 5 (.getfield 11) 3 8 := ⟨DX0_push_c0.2.2.2.1, rfl⟩
theorem dX0_push_8 : Dc cX0_push 8 (.arraylength) 1 9 := ⟨DX0_push_c0.2.2.2.2.1, rfl⟩
theorem dX0_push_9 : Db cX0_push 9 (fun o => .if_icmp .lt o) 12 16 := ⟨7, DX0_push_c0.2.2.2.2.2.1, rfl, rfl⟩
theorem dX0_push_12 : Dc cX0_push 12 (.aload_n 0) 1 13 := ⟨DX0_push_c0.2.2.2.2.2.2.1, rfl⟩
theorem dX0_push_13 : Dc cX0_push 13 (.invokevirtual 22) 3 16 := ⟨DX0_push_c0.2.2.2.2.2.2.2.1, rfl⟩
theorem dX0_push_16 : Dc cX0_push 16 (.aload_n 0) 1 17 := ⟨DX0_push_c0.2.2.2.2.2.2.2.2.1, rfl⟩
theorem dX0_push_17 : Dc cX0_push 17 (.getfield 18) 3 20 := ⟨DX0_push_c0.2.2.2.2.2.2.2.2.2.1, rfl⟩
theorem dX0_push_20 : Db cX0_push 20 (fun o => .ifCond .lt o) 23 70 := ⟨50, DX0_push_c0.2.2.2.2.2.2.2.2.2.2.1, rfl, rfl⟩
theorem dX0_push_23 : Dc cX0_push 23 (.aload_n 0) 1 24 := ⟨DX0_push_c0.2.2.2.2.2.2.2.2.2.2.2.1, rfl⟩
theorem dX0_push_24 : Dc cX0_push 24 (.getfield 18) 3 27 := ⟨DX0_push_c0.2.2.2.2.2.2.2.2.2.2.2.2.1, rfl⟩
theorem dX0_push_27 : Dc cX0_push 27 (.aload_n 0) 1 28 := ⟨DX0_push_c0.2.2.2.2.2.2.2.2.2.2.2.2.2.1, rfl⟩
theorem dX0_push_28 : Dc cX0_push 28 (.getfield 11) 3 31 := ⟨DX0_push_c0.2.2.2.2.2.2.2.2.2.2.2.2.2.2.1, rfl⟩
theorem dX0_push_31 : Dc cX0_push 31 (.arraylength) 1 32 := ⟨DX0_push_c0.2.2.2.2.2.2.2.2.2.2.2.2.2.2.2, rfl⟩
theorem DX0_push_c1 : decode cX0_push 32 = .ok (.if_icmp .ge 38, 3) ∧ decode cX0_push 35 = .ok (.aload_n 0, 1) ∧ decode cX0_push 36 = .ok (.getfield 11, 3) ∧ decode cX0_push 39 = .ok (.aload_n 0, 1) ∧ decode cX0_push 40 = .ok (.getfield 18, 3) ∧ decode cX0_push 43 = .ok (.aaload, 1) ∧ decode cX0_push 44 = .ok (.ifnull 26, 3) ∧ decode cX0_push 47 = .ok (.aload_n 0, 1) ∧ decode cX0_push 48 = .ok (.getfield 11, 3) ∧ decode cX0_push 51 = .ok (.aload_n 0, 1) ∧ decode cX0_push 52 = .ok (.getfield 18, 3) ∧ decode cX0_push 55 = .ok (.aaload, 1) ∧ decode cX0_push 56 = .ok (.aload_n 1, 1) ∧ decode cX0_push 57 = .ok (.invokevirtual 25, 3) ∧ decode cX0_push 60 = .ok (.aload_n 0, 1) ∧ decode cX0_push 61 = .ok (.dup, 1) := by decide +kernel
theorem dX0_push_32 : Db cX0_push 32 (fun o => .if_icmp .ge o) 35 70 := ⟨38, DX0_push_c1.1, rfl, rfl⟩
theorem dX0_push_35 : Dc cX0_push 35 (.aload_n 0) 1 36 := ⟨DX0_push_c1.2.1, rfl⟩
theorem dX0_push_36 : Dc cX0_push 36 (.getfield 11) 3 39 := ⟨DX0_push_c1.2.2.1, rfl⟩
theorem dX0_push_39 : Dc cX0_push 39 (.aload_n 0) 1 40 := ⟨DX0_push_c1.2.2.2.1, rfl⟩
theorem dX0_push_40 : Dc cX0_push 40 (.getfield 18) 3 43 := ⟨DX0_push_c1.2.2.2.2.1, rfl⟩
theorem dX0_push_43 : Dc cX0_push 43 (.aaload) 1 44 := ⟨DX0_push_c1.2.2.2.2.2.1, rfl⟩
theorem dX0_push_44 : Db cX0_push 44 .ifnull 47 70 := ⟨26, DX0_push_c1.2.2.2.2.2.2.1, rfl, rfl⟩
theorem dX0_push_47 : Dc cX0_push 47 (.aload_n 0) 1 48 := ⟨DX0_push_c1.2.2.2.2.2.2.2.1, rfl⟩
theorem dX0_push_48 : Dc cX0_push 48 (.getfield 11) 3 51 := ⟨DX0_push_c1.2.2.2.2.2.2.2.2.1, rfl⟩
theorem dX0_push_51 : Dc cX0_push 51 (.aload_n 0) 1 52 := ⟨DX0_push_c1.2.2.2.2.2.2.2.2.2.1, rfl⟩
theorem dX0_push_52 : Dc cX0_push 52 (.getfield 18) 3 55 := ⟨DX0_push_c1.2.2.2.2.2.2.2.2.2.2.1, rfl⟩
theorem dX0_push_55 : Dc cX0_push 55 (.aaload) 1 56 := ⟨DX0_push_c1.2.2.2.2.2.2.2.2.2.2.2.1, rfl⟩
theorem dX0_push_56 : Dc cX0_push 56 (.aload_n 1) 1 57 := ⟨DX0_push_c1.2.2.2.2.2.2.2.2.2.2.2.2.1, rfl⟩
theorem dX0_push_57 : Dc cX0_push 57 (.invokevirtual 25) 3 60 := ⟨DX0_push_c1.2.2.2.2.2.2.2.2.2.2.2.2.2.1, rfl⟩
theorem dX0_push_60 : Dc cX0_push 60 (.aload_n 0) 1 61 := ⟨DX0_push_c1.2.2.2.2.2.2.2.2.2.2.2.2.2.2.1, rfl⟩
theorem dX0_push_61 : Dc cX0_push 61 (.dup) 1 62 := ⟨DX0_push_c1.2.2.2.2.2.2.2.2.2.2.2.2.2.2.2, rfl⟩
theorem DX0_push_c2 : decode cX0_push 62 = .ok (.getfield 18, 3) ∧ decode cX0_push 65 = .ok (.iconst 1, 1) ∧ decode cX0_push 66 = .ok (.iadd, 1) ∧ decode cX0_push 67 = .ok (.putfield 18, 3) ∧ decode cX0_push 70 = .ok (.return_, 1) := by decide +kernel
theorem dX0_push_62 : Dc cX0_push 62 (.getfield 18) 3 65 := ⟨DX0_push_c2.1, rfl⟩
theorem dX0_push_65 : Dc cX0_push 65 (.iconst 1) 1 66 := ⟨DX0_push_c2.2.1, rfl⟩
theorem dX0_push_66 : Dc cX0_push 66 (.iadd) 1 67 := ⟨DX0_push_c2.2.2.1, rfl⟩
theorem dX0_push_67 : Dc cX0_push 67 (.putfield 18) 3 70 := ⟨DX0_push_c2.2.2.2.1, rfl⟩
theorem dX0_push_70 : Dc cX0_push 70 (.return_) 1 71 := ⟨DX0_push_c2.2.2.2.2, rfl⟩
theorem DX0_pop_c0 : decode cX0_pop 0 = .ok (.aload_n 0, 1) ∧ decode cX0_pop 1 = .ok (.getfield 18, 3) ∧ decode cX0_pop 4 = .ok (.iconst 1, 1) ∧ decode cX0_pop 5 = .ok (.isub, 1) ∧ decode cX0_pop 6 = .ok (.istore_n 2, 1) ∧ decode cX0_pop 7 = .ok (.iload_n 2, 1) ∧ decode cX0_pop 8 = .ok (.ifCond .lt 21, 3) ∧ decode cX0_pop 11 = .ok (.iload_n 2, 1) ∧ decode cX0_pop 12 = .ok (.aload_n 0, 1) ∧ decode cX0_pop 13 = .ok (.getfield 11, 3) ∧ decode cX0_pop 16 = .ok (.arraylength, 1) ∧ decode cX0_pop 17 = .ok (.if_icmp .ge 12, 3) ∧ decode cX0_pop 20 = .ok (.aload_n 0, 1) ∧ decode cX0_pop 21 = .ok (.getfield 11, 3) ∧ decode cX0_pop 24 = .ok (.iload_n 2, 1) ∧ decode cX0_pop 25 = .ok (.aaload, 1) := by decide +kernel
theorem dX0_pop_0 : Dc cX0_pop 0 (.aload_n 0) 1 1 := ⟨DX0_pop_c0.1, rfl⟩
theorem dX0_pop_1 : Dc cX0_pop 1 (.getfield 18) 3 4 := ⟨DX0_pop_c0.2.1, rfl⟩
theorem dX0_pop_4 : Dc cX0_pop 4 (.iconst 1) 1 5 := ⟨DX0_pop_c0.2.2.1, rfl⟩
theorem dX0_pop_5 : Dc cX0_pop 5 (.isub) 1 6 := ⟨DX0_pop_c0.2.2.2.1, rfl⟩
theorem dX0_pop_6 : Dc cX0_pop 6 (.istore_n 2) 1 7 := ⟨DX0_pop_c0.2.2.2.2.1, rfl⟩
theorem dX0_pop_7 : Dc cX0_pop 7 (.iload_n 2) 1 8 := ⟨DX0_pop_c0.2.2.2.2.2.1, rfl⟩
theorem dX0_pop_8 : Db cX0_pop 8 (fun o => .ifCond .lt o) 11 29 := ⟨21, DX0_pop_c0.2.2.2.2.2.2.1, rfl, rfl⟩
theorem dX0_pop_11 : Dc cX0_pop 11 (.iload_n 2) 1 12 := ⟨DX0_pop_c0.2.2.2.2.2.2.2.1, rfl⟩
theorem dX0_pop_12 : Dc cX0_pop 12 (.aload_n 0) 1 13 := ⟨DX0_pop_c0.2.2.2.2.2.2.2.2.1, rfl⟩
theorem dX0_pop_13 : Dc cX0_pop 13 (.getfield 11) 3 16 := ⟨DX0_pop_c0.2.2.2.2.2.2.2.2.2.1, rfl⟩
theorem dX0_pop_16 : Dc cX0_pop 16 (.arraylength) 1 17 := ⟨DX0_pop_c0.2.2.2.2.2.2.2.2.2.2.1, rfl⟩
theorem dX0_pop_17 : Db cX0_pop 17 (fun o => .if_icmp .ge o) 20 29 := ⟨12, DX0_pop_c0.2.2.2.2.2.2.2.2.2.2.2.1, rfl, rfl⟩
theorem dX0_pop_20 : Dc cX0_pop 20 (.aload_n 0) 1 21 := ⟨DX0_pop_c0.2.2.2.2.2.2.2.2.2.2.2.2.1, rfl⟩
theorem dX0_pop_21 : Dc cX0_pop 21 (.getfield 11) 3 24 := ⟨DX0_pop_c0.2.2.2.2.2.2.2.2.2.2.2.2.2.1, rfl⟩
theorem dX0_pop_24 : Dc cX0_pop 24 (.iload_n 2) 1 25 := ⟨DX0_pop_c0.2.2.2.2.2.2.2.2.2.2.2.2.2.2.1, rfl⟩
theorem dX0_pop_25 : Dc cX0_pop 25 (.aaload) 1 26 := ⟨DX0_pop_c0.2.2.2.2.2.2.2.2.2.2.2.2.2.2.2, rfl⟩
theorem DX0_pop_c1 : decode cX0_pop 26 = .ok (.ifnonnull 5, 3) ∧ decode cX0_pop 29 = .ok (.iconst 0, 1) ∧ decode cX0_pop 30 = .ok (.ireturn, 1) ∧ decode cX0_pop 31 = .ok (.aload_n 1, 1) ∧ decode cX0_pop 32 = .ok (.aload_n 0, 1) ∧ decode cX0_pop 33 = .ok (.getfield 11, 3) ∧ decode cX0_pop 36 = .ok (.iload_n 2, 1) ∧ decode cX0_pop 37 = .ok (.aaload, 1) ∧ decode cX0_pop 38 = .ok (.invokevirtual 25, 3) ∧ decode cX0_pop 41 = .ok (.aload_n 0, 1) ∧ decode cX0_pop 42 = .ok (.iload_n 2, 1) ∧ decode cX0_pop 43 = .ok (.putfield 18, 3) ∧ decode cX0_pop 46 = .ok (.iconst 1, 1) ∧ decode cX0_pop 47 = .ok (.ireturn, 1) := by decide +kernel
theorem dX0_pop_26 : Db cX0_pop 26 .ifnonnull 29 31 := ⟨5, DX0_pop_c1.1, rfl, rfl⟩
theorem dX0_pop_29 : Dc cX0_pop 29 (.iconst 0) 1 30 := ⟨DX0_pop_c1.2.1, rfl⟩
theorem dX0_pop_30 : Dc cX0_pop 30 (.ireturn) 1 31 := ⟨DX0_pop_c1.2.2.1, rfl⟩
theorem dX0_pop_31 : Dc cX0_pop 31 (.aload_n 1) 1 32 := ⟨DX0_pop_c1.2.2.2.1, rfl⟩
theorem dX0_pop_32 : Dc cX0_pop 32 (.aload_n 0) 1 33 := ⟨DX0_pop_c1.2.2.2.2.1, rfl⟩
theorem dX0_pop_33 : Dc cX0_pop 33 (.getfield 11) 3 36 := ⟨DX0_pop_c1.2.2.2.2.2.1, rfl⟩
theorem dX0_pop_36 : Dc cX0_pop 36 (.iload_n 2) 1 37 := ⟨DX0_pop_c1.2.2.2.2.2.2.1, rfl⟩
theorem dX0_pop_37 : Dc cX0_pop 37 (.aaload) 1 38 := ⟨DX0_pop_c1.2.2.2.2.2.2.2.1, rfl⟩
theorem dX0_pop_38 : Dc cX0_pop 38 (.invokevirtual 25) 3 41 := ⟨DX0_pop_c1.2.2.2.2.2.2.2.2.1, rfl⟩
theorem dX0_pop_41 : Dc cX0_pop 41 (.aload_n 0) 1 42 := ⟨DX0_pop_c1.2.2.2.2.2.2.2.2.2.1, rfl⟩
theorem dX0_pop_42 : Dc cX0_pop 42 (.iload_n 2) 1 43 := ⟨DX0_pop_c1.2.2.2.2.2.2.2.2.2.2.1, rfl⟩
theorem dX0_pop_43 : Dc cX0_pop 43 (.putfield 18) 3 46 := ⟨DX0_pop_c1.2.2.2.2.2.2.2.2.2.2.2.1, rfl⟩
theorem dX0_pop_46 : Dc cX0_pop 46 (.iconst 1) 1 47 := ⟨DX0_pop_c1.2.2.2.2.2.2.2.2.2.2.2.2.1, rfl⟩
theorem dX0_pop_47 : Dc cX0_pop 47 (.ireturn) 1 48 := ⟨DX0_pop_c1.2.2.2.2.2.2.2.2.2.2.2.2.2, rfl⟩
theorem DX0_dropOldest_c0 : decode cX0_dropOldest 0 = .ok (.aload_n 0, 1) ∧ decode cX0_dropOldest 1 = .ok (.getfield 11, 3) ∧ decode cX0_dropOldest 4 = .ok (.arraylength, 1) ∧ decode cX0_dropOldest 5 = .ok (.ifCond .ne 4, 3) ∧ decode cX0_dropOldest 8 = .ok (.return_, 1) ∧ decode cX0_dropOldest 9 = .ok (.aload_n 0, 1) ∧ decode cX0_dropOldest 10 = .ok (.getfield 11, 3) ∧ decode cX0_dropOldest 13 = .ok (.iconst 0, 1) ∧ decode cX0_dropOldest 14 = .ok (.aaload, 1) ∧ decode cX0_dropOldest 15 = .ok (.astore_n 1, 1) ∧ decode cX0_dropOldest 16 = .ok (.iconst 1, 1) ∧ decode cX0_dropOldest 17 = .ok (.istore_n 2, 1) ∧ decode cX0_dropOldest 18 = .ok (.iload_n 2, 1) ∧ decode cX0_dropOldest 19 = .ok (.aload_n 0, 1) ∧ decode cX0_dropOldest 20 = .ok (.getfield 11, 3) ∧ decode cX0_dropOldest 23 = .ok (.arraylength, 1) := by decide +kernel
theorem dX0_dropOldest_0 : Dc cX0_dropOldest 0 (.aload_n 0) 1 1 := ⟨DX0_dropOldest_c0.1, rfl⟩
theorem dX0_dropOldest_1 : Dc cX0_dropOldest 1 (.getfield 11) 3 4 := ⟨DX0_dropOldest_c0.2.1, rfl⟩
theorem dX0_dropOldest_4 : Dc cX0_dropOldest 4 (.arraylength) 1 5 := ⟨DX0_dropOldest_c0.2.2.1, rfl⟩
theorem dX0_dropOldest_5 : Db cX0_dropOldest 5 (fun o => .ifCond .ne o) 8 9 := ⟨4, DX0_dropOldest_c0.2.2.2.1, rfl, rfl⟩
theorem dX0_dropOldest_8 : Dc cX0_dropOldest 8 (.return_) 1 9 := ⟨DX0_dropOldest_c0.2.2.2.2.1, rfl⟩
theorem dX0_dropOldest_9 : Dc cX0_dropOldest 9 (.aload_n 0) 1 10 := ⟨DX0_dropOldest_c0.2.2.2.2.2.1, rfl⟩
theorem dX0_dropOldest_10 : Dc cX0_dropOldest 10 (.getfield 11) 3 13 := ⟨DX0_dropOldest_c0.2.2.2.2.2.2.1, rfl⟩
theorem dX0_dropOldest_13 : Dc cX0_dropOldest 13 (.iconst 0) 1 14 := ⟨DX0_dropOldest_c0.2.2.2.2.2.2.2.1, rfl⟩
theorem dX0_dropOldest_14 : Dc cX0_dropOldest 14 (.aaload) 1 15 := ⟨DX0_dropOldest_c0.2.2.2.2.2.2.2.2.1, rfl⟩
theorem dX0_dropOldest_15 : Dc cX0_dropOldest 15 (.astore_n 1) 1 16 := ⟨DX0_dropOldest_c0.2.2.2.2.2.2.2.2.2.1, rfl⟩
theorem dX0_dropOldest_16 : Dc cX0_dropOldest 16 (.iconst 1) 1 17 := ⟨DX0_dropOldest_c0.2.2.2.2.2.2.2.2.2.2.1, rfl⟩
theorem dX0_dropOldest_17 : Dc cX0_dropOldest 17 (.istore_n 2) 1 18 := ⟨DX0_dropOldest_c0.2.2.2.2.2.2.2.2.2.2.2.1, rfl⟩
theorem dX0_dropOldest_18 : Dc cX0_dropOldest 18 (.iload_n 2) 1 19 := ⟨DX0_dropOldest_c0.2.2.2.2.2.2.2.2.2.2.2.2.1, rfl⟩
theorem dX0_dropOldest_19 : Dc cX0_dropOldest 19 (.aload_n 0) 1 20 := ⟨DX0_dropOldest_c0.2.2.2.2.2.2.2.2.2.2.2.2.2.1, rfl⟩
theorem dX0_dropOldest_20 : Dc cX0_dropOldest 20 (.getfield 11) 3 23 := ⟨DX0_dropOldest_c0.2.2.2.2.2.2.2.2.2.2.2.2.2.2.1, rfl⟩
theorem dX0_dropOldest_23 : Dc cX0_dropOldest 23 (.arraylength) 1 24 := ⟨DX0_dropOldest_c0.2.2.2.2.2.2.2.2.2.2.2.2.2.2.2, rfl⟩
theorem DX0_dropOldest_c1 : decode cX0_dropOldest 24 = .ok (.if_icmp .ge 23, 3) ∧ decode cX0_dropOldest 27 = .ok (.aload_n 0, 1) ∧ decode cX0_dropOldest 28 = .ok (.getfield 11, 3) ∧ decode cX0_dropOldest 31 = .ok (.iload_n 2, 1) ∧ decode cX0_dropOldest 32 = .ok (.iconst 1, 1) ∧ decode cX0_dropOldest 33 = .ok (.isub, 1) ∧ decode cX0_dropOldest 34 = .ok (.aload_n 0, 1) ∧ decode cX0_dropOldest 35 = .ok (.getfield 11, 3) ∧ decode cX0_dropOldest 38 = .ok (.iload_n 2, 1) ∧ decode cX0_dropOldest 39 = .ok (.aaload, 1) ∧ decode cX0_dropOldest 40 = .ok (.aastore, 1) ∧ decode cX0_dropOldest 41 = .ok (.iinc 2 1, 3) ∧ decode cX0_dropOldest 44 = .ok (.goto (-26), 3) ∧ decode cX0_dropOldest 47 = .ok (.aload_n 0, 1) ∧ decode cX0_dropOldest 48 = .ok (.getfield 11, 3) ∧ decode cX0_dropOldest 51 = .ok (.aload_n 0, 1) := by decide +kernel
theorem dX0_dropOldest_24 : Db cX0_dropOldest 24 (fun o => .if_icmp .ge o) 27 47 := ⟨23, DX0_dropOldest_c1.1, rfl, rfl⟩
theorem dX0_dropOldest_27 : Dc cX0_dropOldest 27 (.aload_n 0) 1 28 := ⟨DX0_dropOldest_c1.2.1, rfl⟩
theorem dX0_dropOldest_28 : Dc cX0_dropOldest 28 (.getfield 11) 3 31 := ⟨DX0_dropOldest_c1.2.2.1, rfl⟩
theorem dX0_dropOldest_31 : Dc cX0_dropOldest 31 (.iload_n 2) 1 32 := ⟨DX0_dropOldest_c1.2.2.2.1, rfl⟩
theorem dX0_dropOldest_32 : Dc cX0_dropOldest 32 (.iconst 1) 1 33 := ⟨DX0_dropOldest_c1.2.2.2.2.1, rfl⟩
theorem dX0_dropOldest_33 : Dc cX0_dropOldest 33 (.isub) 1 34 := ⟨DX0_dropOldest_c1.2.2.2.2.2.1, rfl⟩
theorem dX0_dropOldest_34 : Dc cX0_dropOldest 34 (.aload_n 0) 1 35 := ⟨DX0_dropOldest_c1.2.2.2.2.2.2.1, rfl⟩
theorem dX0_dropOldest_35 : Dc cX0_dropOldest 35 (.getfield 11) 3 38 := ⟨DX0_dropOldest_c1.2.2.2.2.2.2.2.1, rfl⟩
theorem dX0_dropOldest_38 : Dc cX0_dropOldest 38 (.iload_n 2) 1 39 := ⟨DX0_dropOldest_c1.2.2.2.2.2.2.2.2.1, rfl⟩
theorem dX0_dropOldest_39 : Dc cX0_dropOldest 39 (.aaload) 1 40 := ⟨DX0_dropOldest_c1.2.2.2.2.2.2.2.2.2.1, rfl⟩
theorem dX0_dropOldest_40 : Dc cX0_dropOldest 40 (.aastore) 1 41 := ⟨DX0_dropOldest_c1.2.2.2.2.2.2.2.2.2.2.1, rfl⟩
theorem dX0_dropOldest_41 : Dc cX0_dropOldest 41 (.iinc 2 1) 3 44 := ⟨DX0_dropOldest_c1.2.2.2.2.2.2.2.2.2.2.2.1, rfl⟩
theorem dX0_dropOldest_44 : Db cX0_dropOldest 44 .goto 47 18 := ⟨-26, DX0_dropOldest_c1.2.2.2.2.2.2.2.2.2.2.2.2.1, rfl, rfl⟩
theorem dX0_dropOldest_47 : Dc cX0_dropOldest 47 (.aload_n 0) 1 48 := ⟨DX0_dropOldest_c1.2.2.2.2.2.2.2.2.2.2.2.2.2.1, rfl⟩
theorem dX0_dropOldest_48 : Dc cX0_dropOldest 48 (.getfield 11) 3 51 := ⟨DX0_dropOldest_c1.2.2.2.2.2.2.2.2.2.2.2.2.2.2.1, rfl⟩
theorem dX0_dropOldest_51 : Dc cX0_dropOldest 51 (.aload_n 0) 1 52 := ⟨DX0_dropOldest_c1.2.2.2.2.2.2.2.2.2.2.2.2.2.2.2, rfl⟩
theorem DX0_dropOldest_c2 : decode cX0_dropOldest 52 = .ok (.getfield 11, 3) ∧ decode cX0_dropOldest 55 = .ok (.arraylength, 1) ∧ decode cX0_dropOldest 56 = .ok (.iconst 1, 1) ∧ decode cX0_dropOldest 57 = .ok (.isub, 1) ∧ decode cX0_dropOldest 58 = .ok (.aload_n 1, 1) ∧ decode cX0_dropOldest 59 = .ok (.aastore, 1) ∧ decode cX0_dropOldest 60 = .ok (.aload_n 0, 1) ∧ decode cX0_dropOldest 61 = .ok (.dup, 1) ∧ decode cX0_dropOldest 62 = .ok (.getfield 18, 3) ∧ decode cX0_dropOldest 65 = .ok (.iconst 1, 1) ∧ decode cX0_dropOldest 66 = .ok (.isub, 1) ∧ decode cX0_dropOldest 67 = .ok (.putfield 18, 3) ∧ decode cX0_dropOldest 70 = .ok (.return_, 1) := by decide +kernel
theorem dX0_dropOldest_52 : Dc cX0_dropOldest 52 (.getfield 11) 3 55 := ⟨DX0_dropOldest_c2.1, rfl⟩
theorem dX0_dropOldest_55 : Dc cX0_dropOldest 55 (.arraylength) 1 56 := ⟨DX0_dropOldest_c2.2.1, rfl⟩
theorem dX0_dropOldest_56 : Dc cX0_dropOldest 56 (.iconst 1) 1 57 := ⟨DX0_dropOldest_c2.2.2.1, rfl⟩
theorem dX0_dropOldest_57 : Dc cX0_dropOldest 57 (.isub) 1 58 := ⟨DX0_dropOldest_c2.2.2.2.1, rfl⟩
theorem dX0_dropOldest_58 : Dc cX0_dropOldest 58 (.aload_n 1) 1 59 := ⟨DX0_dropOldest_c2.2.2.2.2.1, rfl⟩
theorem dX0_dropOldest_59 : Dc cX0_dropOldest 59 (.aastore) 1 60 := ⟨DX0_dropOldest_c2.2.2.2.2.2.1, rfl⟩
theorem dX0_dropOldest_60 : Dc cX0_dropOldest 60 (.aload_n 0) 1 61 := ⟨DX0_dropOldest_c2.2.2.2.2.2.2.1, rfl⟩
theorem dX0_dropOldest_61 : Dc cX0_dropOldest 61 (.dup) 1 62 := ⟨DX0_dropOldest_c2.2.2.2.2.2.2.2.1, rfl⟩
theorem dX0_dropOldest_62 : Dc cX0_dropOldest 62 (.getfield 18) 3 65 := ⟨DX0_dropOldest_c2.2.2.2.2.2.2.2.2.1, rfl⟩
theorem dX0_dropOldest_65 : Dc cX0_dropOldest 65 (.iconst 1) 1 66 := ⟨DX0_dropOldest_c2.2.2.2.2.2.2.2.2.2.1, rfl⟩
theorem dX0_dropOldest_66 : Dc cX0_dropOldest 66 (.isub) 1 67 := ⟨DX0_dropOldest_c2.2.2.2.2.2.2.2.2.2.2.1, rfl⟩
theorem dX0_dropOldest_67 : Dc cX0_dropOldest 67 (.putfield 18) 3 70 := ⟨DX0_dropOldest_c2.2.2.2.2.2.2.2.2.2.2.2.1, rfl⟩
theorem dX0_dropOldest_70 : Dc cX0_dropOldest 70 (.return_) 1 71 := ⟨DX0_dropOldest_c2.2.2.2.2.2.2.2.2.2.2.2.2, rfl⟩
theorem DX1_init_c0 : decode cX1_init 0 = .ok (.aload_n 0, 1) ∧ decode cX1_init 1 = .ok (.invokespecial 3, 3) ∧ decode cX1_init 4 = .ok (.return_, 1) := by decide +kernel
theorem dX1_init_0 : Dc cX1_init 0 (.aload_n 0) 1 1 := ⟨DX1_init_c0.1, rfl⟩
theorem dX1_init_1 : Dc cX1_init 1 (.invokespecial 3) 3 4 := ⟨DX1_init_c0.2.1, rfl⟩
theorem dX1_init_4 : Dc cX1_init 4 (.return_) 1 5 := ⟨DX1_init_c0.2.2, rfl⟩
theorem DX1_begin_c0 : decode cX1_begin 0 = .ok (.aload_n 0, 1) ∧ decode cX1_begin 1 = .ok (.iconst 0, 1) ∧ decode cX1_begin 2 = .ok (.putfield 9, 3) ∧ decode cX1_begin 5 = .ok (.aload_n 0, 1) ∧ decode cX1_begin 6 = .ok (.iconst 0, 1) ∧ decode cX1_begin 7 = .ok (.putfield 15, 3) ∧ decode cX1_begin 10 = .ok (.aload_n 0, 1) ∧ decode cX1_begin 11 = .ok (.iconst 0, 1) ∧ decode cX1_begin 12 = .ok (.putfield 18, 3) ∧ decode cX1_begin 15 = .ok (.return_, 1) := by decide +kernel
theorem dX1_begin_0 : Dc cX1_begin 0 (.aload_n 0) 1 1 := ⟨DX1_begin_c0.1, rfl⟩
theorem dX1_begin_1 : Dc cX1_begin 1 (.iconst 0) 1 2 := ⟨DX1_begin_c0.2.1, rfl⟩
theorem dX1_begin_2 : Dc cX1_begin 2 (.putfield 9) 3 5 := ⟨DX1_begin_c0.2.2.1, rfl⟩
theorem dX1_begin_5 : Dc cX1_begin 5 (.aload_n 0) 1 6 := ⟨DX1_begin_c0.2.2.2.1, rfl⟩
theorem dX1_begin_6 : Dc cX1_begin 6 (.iconst 0) 1 7 := ⟨DX1_begin_c0.2.2.2.2.1, rfl⟩
theorem dX1_begin_7 : Dc cX1_begin 7 (.putfield 15) 3 10 := ⟨DX1_begin_c0.2.2.2.2.2.1, rfl⟩
theorem dX1_begin_10 : Dc cX1_begin 10 (.aload_n 0) 1 11 := ⟨DX1_begin_c0.2.2.2.2.2.2.1, rfl⟩
theorem dX1_begin_11 : Dc cX1_begin 11 (.iconst 0) 1 12 := ⟨DX1_begin_c0.2.2.2.2.2.2.2.1, rfl⟩
theorem dX1_begin_12 : Dc cX1_begin 12 (.putfield 18) 3 15 := ⟨DX1_begin_c0.2.2.2.2.2.2.2.2.1, rfl⟩
theorem dX1_begin_15 : Dc cX1_begin 15 (.return_) 1 16 := ⟨DX1_begin_c0.2.2.2.2.2.2.2.2.2, rfl⟩
theorem DX1_doTurns_c0 : decode cX1_doTurns 0 = .ok (.aload_n 0, 1) ∧ decode cX1_doTurns 1 = .ok (.invokevirtual 21, 3) ∧ decode cX1_doTurns 4 = .ok (.iconst 1, 1) ∧ decode cX1_doTurns 5 = .ok (.istore 5, 2) ∧ decode cX1_doTurns 7 = .ok (.iconst 0, 1) ∧ decode cX1_doTurns 8 = .ok (.istore 6, 2) ∧ decode cX1_doTurns 10 = .ok (.iload 5, 2) ∧ decode cX1_doTurns 12 = .ok (.ifCond .eq 27, 3) ∧ decode cX1_doTurns 15 = .ok (.iload 6, 2) ∧ decode cX1_doTurns 17 = .ok (.iload 4, 2) ∧ decode cX1_doTurns 19 = .ok (.if_icmp .ge 20, 3) ∧ decode cX1_doTurns 22 = .ok (.aload_n 0, 1) ∧ decode cX1_doTurns 23 = .ok (.aload_n 1, 1) ∧ decode cX1_doTurns 24 = .ok (.aload_n 2, 1) ∧ decode cX1_doTurns 25 = .ok (.iload_n 3, 1) ∧ decode cX1_doTurns 26 = .ok (.iload 6, 2) := by decide +kernel
theorem dX1_doTurns_0 : Dc cX1_doTurns 0 (.aload_n 0) 1 1 := ⟨DX1_doTurns_c0.1, rfl⟩
theorem dX1_doTurns_1 : Dc cX1_doTurns 1 (.invokevirtual 21) 3 4 := ⟨DX1_doTurns_c0.2.1, rfl⟩
theorem dX1_doTurns_4 : Dc cX1_doTurns 4 (.iconst 1) 1 5 := ⟨DX1_doTurns_c0.2.2.1, rfl⟩
theorem dX1_doTurns_5 : Dc cX1_doTurns 5 (.istore 5) 2 7 := ⟨DX1_doTurns_c0.2.2.2.1, rfl⟩
theorem dX1_doTurns_7 : Dc cX1_doTurns 7 (.iconst 0) 1 8 := ⟨DX1_doTurns_c0.2.2.2.2.1, rfl⟩
theorem dX1_doTurns_8 : Dc cX1_doTurns 8 (.istore 6) 2 10 := ⟨DX1_doTurns_c0.2.2.2.2.2.1, rfl⟩
theorem dX1_doTurns_10 : Dc cX1_doTurns 10 (.iload 5) 2 12 := ⟨DX1_doTurns_c0.2.2.2.2.2.2.1, rfl⟩
theorem dX1_doTurns_12 : Db cX1_doTurns 12 (fun o => .ifCond .eq o) 15 39 := ⟨27, DX1_doTurns_c0.2.2.2.2.2.2.2.1, rfl, rfl⟩
theorem dX1_doTurns_15 : Dc cX1_doTurns 15 (.iload 6) 2 17 := ⟨DX1_doTurns_c0.2.2.2.2.2.2.2.2.1, rfl⟩
theorem dX1_doTurns_17 : Dc cX1_doTurns 17 (.iload 4) 2 19 := ⟨DX1_doTurns_c0.2.2.2.2.2.2.2.2.2.1, rfl⟩
theorem dX1_doTurns_19 : Db cX1_doTurns 19 (fun o => .if_icmp .ge o) 22 39 := ⟨20, DX1_doTurns_c0.2.2.2.2.2.2.2.2.2.2.1, rfl, rfl⟩
theorem dX1_doTurns_22 : Dc cX1_doTurns 22 (.aload_n 0) 1 23 := ⟨DX1_doTurns_c0.2.2.2.2.2.2.2.2.2.2.2.1, rfl⟩
theorem dX1_doTurns_23 : Dc cX1_doTurns 23 (.aload_n 1) 1 24 := ⟨DX1_doTurns_c0.2.2.2.2.2.2.2.2.2.2.2.2.1, rfl⟩
theorem dX1_doTurns_24 : Dc cX1_doTurns 24 (.aload_n 2) 1 25 := ⟨DX1_doTurns_c0.2.2.2.2.2.2.2.2.2.2.2.2.2.1, rfl⟩
theorem dX1_doTurns_25 : Dc cX1_doTurns 25 (.iload_n 3) 1 26 := ⟨DX1_doTurns_c0.2.2.2.2.2.2.2.2.2.2.2.2.2.2.1, rfl⟩
theorem dX1_doTurns_26 : Dc cX1_doTurns 26 (.iload 6) 2 28 := ⟨DX1_doTurns_c0.2.2.2.2.2.2.2.2.2.2.2.2.2.2.2, rfl⟩
theorem DX1_doTurns_c1 : decode cX1_doTurns 28 = .ok (.invokevirtual 24, 3) ∧ decode cX1_doTurns 31 = .ok (.istore 5, 2) ∧ decode cX1_doTurns 33 = .ok (.iinc 6 1, 3) ∧ decode cX1_doTurns 36 = .ok (.goto (-26), 3) ∧ decode cX1_doTurns 39 = .ok (.return_, 1) := by decide +kernel
theorem dX1_doTurns_28 : Dc cX1_doTurns 28 (.invokevirtual 24) 3 31 := ⟨DX1_doTurns_c1.1, rfl⟩
theorem dX1_doTurns_31 : Dc cX1_doTurns 31 (.istore 5) 2 33 := ⟨DX1_doTurns_c1.2.1, rfl⟩
theorem dX1_doTurns_33 : Dc cX1_doTurns 33 (.iinc 6 1) 3 36 := ⟨DX1_doTurns_c1.2.2.1, rfl⟩
theorem dX1_doTurns_36 : Db cX1_doTurns 36 .goto 39 10 := ⟨-26, DX1_doTurns_c1.2.2.2.1, rfl, rfl⟩
theorem dX1_doTurns_39 : Dc cX1_doTurns 39 (.return_) 1 40 := ⟨DX1_doTurns_c1.2.2.2.2, rfl⟩
theorem DX1_doTurn_c0 : decode cX1_doTurn 0 = .ok (.aload_n 2, 1) ∧ decode cX1_doTurn 1 = .ok (.iload_n 3, 1) ∧ decode cX1_doTurn 2 = .ok (.invokevirtual 28, 3) ∧ decode cX1_doTurn 5 = .ok (.istore 5, 2) ∧ decode cX1_doTurn 7 = .ok (.iconst 0, 1) ∧ decode cX1_doTurn 8 = .ok (.istore 6, 2) ∧ decode cX1_doTurn 10 = .ok (.iload 6, 2) ∧ decode cX1_doTurn 12 = .ok (.iload 5, 2) ∧ decode cX1_doTurn 14 = .ok (.if_icmp .ge 90, 3) ∧ decode cX1_doTurn 17 = .ok (.aload_n 2, 1) ∧ decode cX1_doTurn 18 = .ok (.iload_n 3, 1) ∧ decode cX1_doTurn 19 = .ok (.iload 6, 2) ∧ decode cX1_doTurn 21 = .ok (.invokevirtual 34, 3) ∧ decode cX1_doTurn 24 = .ok (.istore 7, 2) ∧ decode cX1_doTurn 26 = .ok (.aload_n 2, 1) ∧ decode cX1_doTurn 27 = .ok (.iload_n 3, 1) := by decide +kernel
theorem dX1_doTurn_0 : Dc cX1_doTurn 0 (.aload_n 2) 1 1 := ⟨DX1_doTurn_c0.1, rfl⟩
theorem dX1_doTurn_1 : Dc cX1_doTurn 1 (.iload_n 3) 1 2 := ⟨DX1_doTurn_c0.2.1, rfl⟩
theorem dX1_doTurn_2 : Dc cX1_doTurn 2 (.invokevirtual 28) 3 5 := ⟨DX1_doTurn_c0.2.2.1, rfl⟩
theorem dX1_doTurn_5 : Dc cX1_doTurn 5 (.istore 5) 2 7 := ⟨DX1_doTurn_c0.2.2.2.1, rfl⟩
theorem dX1_doTurn_7 : Dc cX1_doTurn 7 (.iconst 0) 1 8 := ⟨DX1_doTurn_c0.2.2.2.2.1, rfl⟩
theorem dX1_doTurn_8 : Dc cX1_doTurn 8 (.istore 6) 2 10 := ⟨DX1_doTurn_c0.2.2.2.2.2.1, rfl⟩
theorem dX1_doTurn_10 : Dc cX1_doTurn 10 (.iload 6) 2 12 := ⟨DX1_doTurn_c0.2.2.2.2.2.2.1, rfl⟩
theorem dX1_doTurn_12 : Dc cX1_doTurn 12 (.iload 5) 2 14 := ⟨DX1_doTurn_c0.2.2.2.2.2.2.2.1, rfl⟩
theorem dX1_doTurn_14 : Db cX1_doTurn 14 (fun o => .if_icmp .ge o) 17 104 := ⟨90, DX1_doTurn_c0.2.2.2.2.2.2.2.2.1, rfl, rfl⟩
theorem dX1_doTurn_17 : Dc cX1_doTurn 17 (.aload_n 2) 1 18 := ⟨DX1_doTurn_c0.2.2.2.2.2.2.2.2.2.1, rfl⟩
theorem dX1_doTurn_18 : Dc cX1_doTurn 18 (.iload_n 3) 1 19 := ⟨DX1_doTurn_c0.2.2.2.2.2.2.2.2.2.2.1, rfl⟩
theorem dX1_doTurn_19 : Dc cX1_doTurn 19 (.iload 6) 2 21 := ⟨DX1_doTurn_c0.2.2.2.2.2.2.2.2.2.2.2.1, rfl⟩
theorem dX1_doTurn_21 : Dc cX1_doTurn 21 (.invokevirtual 34) 3 24 := ⟨DX1_doTurn_c0.2.2.2.2.2.2.2.2.2.2.2.2.1, rfl⟩
theorem dX1_doTurn_24 : Dc cX1_doTurn 24 (.istore 7) 2 26 := ⟨DX1_doTurn_c0.2.2.2.2.2.2.2.2.2.2.2.2.2.1, rfl⟩
theorem dX1_doTurn_26 : Dc cX1_doTurn 26 (.aload_n 2) 1 27 := ⟨DX1_doTurn_c0.2.2.2.2.2.2.2.2.2.2.2.2.2.2.1, rfl⟩
theorem dX1_doTurn_27 : Dc cX1_doTurn 27 (.iload_n 3) 1 28 := ⟨DX1_doTurn_c0.2.2.2.2.2.2.2.2.2.2.2.2.2.2.2, rfl⟩
theorem DX1_doTurn_c1 : decode cX1_doTurn 28 = .ok (.iload 6, 2) ∧ decode cX1_doTurn 30 = .ok (.iload 4, 2) ∧ decode cX1_doTurn 32 = .ok (.invokevirtual 38, 3) ∧ decode cX1_doTurn 35 = .ok (.istore 8, 2) ∧ decode cX1_doTurn 37 = .ok (.iload 7, 2) ∧ decode cX1_doTurn 39 = .ok (.iload 8, 2) ∧ decode cX1_doTurn 41 = .ok (.invokestatic 42, 3) ∧ decode cX1_doTurn 44 = .ok (.ifCond .ne 10, 3) ∧ decode cX1_doTurn 47 = .ok (.aload_n 0, 1) ∧ decode cX1_doTurn 48 = .ok (.iconst 1, 1) ∧ decode cX1_doTurn 49 = .ok (.putfield 18, 3) ∧ decode cX1_doTurn 52 = .ok (.iconst 0, 1) ∧ decode cX1_doTurn 53 = .ok (.ireturn, 1) ∧ decode cX1_doTurn 54 = .ok (.aload_n 0, 1) ∧ decode cX1_doTurn 55 = .ok (.dup, 1) ∧ decode cX1_doTurn 56 = .ok (.getfield 9, 3) := by decide +kernel
theorem dX1_doTurn_28 : Dc cX1_doTurn 28 (.iload 6) 2 30 := ⟨DX1_doTurn_c1.1, rfl⟩
theorem dX1_doTurn_30 : Dc cX1_doTurn 30 (.iload 4) 2 32 := ⟨DX1_doTurn_c1.2.1, rfl⟩
theorem dX1_doTurn_32 : Dc cX1_doTurn 32 (.invokevirtual 38) 3 35 := ⟨DX1_doTurn_c1.2.2.1, rfl⟩
theorem dX1_doTurn_35 : Dc cX1_doTurn 35 (.istore 8) 2 37 := ⟨DX1_doTurn_c1.2.2.2.1, rfl⟩
theorem dX1_doTurn_37 : Dc cX1_doTurn 37 (.iload 7) 2 39 := ⟨DX1_doTurn_c1.2.2.2.2.1, rfl⟩
theorem dX1_doTurn_39 : Dc cX1_doTurn 39 (.iload 8) 2 41 := ⟨DX1_doTurn_c1.2.2.2.2.2.1, rfl⟩
theorem dX1_doTurn_41 : Dc cX1_doTurn 41 (.invokestatic 42) 3 44 := ⟨DX1_doTurn_c1.2.2.2.2.2.2.1, rfl⟩
theorem dX1_doTurn_44 : Db cX1_doTurn 44 (fun o => .ifCond .ne o) 47 54 := ⟨10, DX1_doTurn_c1.2.2.2.2.2.2.2.1, rfl, rfl⟩
theorem dX1_doTurn_47 : Dc cX1_doTurn 47 (.aload_n 0) 1 48 := ⟨DX1_doTurn_c1.2.2.2.2.2.2.2.2.1, rfl⟩
theorem dX1_doTurn_48 : Dc cX1_doTurn 48 (.iconst 1) 1 49 := ⟨DX1_doTurn_c1.2.2.2.2.2.2.2.2.2.1, rfl⟩
theorem dX1_doTurn_49 : Dc cX1_doTurn 49 (.putfield 18) 3 52 := ⟨DX1_doTurn_c1.2.2.2.2.2.2.2.2.2.2.1, rfl⟩
theorem dX1_doTurn_52 : Dc cX1_doTurn 52 (.iconst 0) 1 53 := ⟨DX1_doTurn_c1.2.2.2.2.2.2.2.2.2.2.2.1, rfl⟩
theorem dX1_doTurn_53 : Dc cX1_doTurn 53 (.ireturn) 1 54 := ⟨DX1_doTurn_c1.2.2.2.2.2.2.2.2.2.2.2.2.1, rfl⟩
theorem dX1_doTurn_54 : Dc cX1_doTurn 54 (.aload_n 0) 1 55 := ⟨DX1_doTurn_c1.2.2.2.2.2.2.2.2.2.2.2.2.2.1, rfl⟩
theorem dX1_doTurn_55 : Dc cX1_doTurn 55 (.dup) 1 56 := ⟨DX1_doTurn_c1.2.2.2.2.2.2.2.2.2.2.2.2.2.2.1, rfl⟩
theorem dX1_doTurn_56 : Dc cX1_doTurn 56 (.getfield 9) 3 59 := ⟨DX1_doTurn_c1.2.2.2.2.2.2.2.2.2.2.2.2.2.2.2, rfl⟩
theorem DX1_doTurn_c2 : decode cX1_doTurn 59 = .ok (.iconst 1, 1) ∧ decode cX1_doTurn 60 = .ok (.iadd, 1) ∧ decode cX1_doTurn 61 = .ok (.putfield 9, 3) ∧ decode cX1_doTurn 64 = .ok (.aload_n 1, 1) ∧ decode cX1_doTurn 65 = .ok (.iload 7, 2) ∧ decode cX1_doTurn 67 = .ok (.iload 8, 2) ∧ decode cX1_doTurn 69 = .ok (.invokevirtual 46, 3) ∧ decode cX1_doTurn 72 = .ok (.ifCond .ne 10, 3) ∧ decode cX1_doTurn 75 = .ok (.aload_n 0, 1) ∧ decode cX1_doTurn 76 = .ok (.iconst 2, 1) ∧ decode cX1_doTurn 77 = .ok (.putfield 18, 3) ∧ decode cX1_doTurn 80 = .ok (.iconst 0, 1) ∧ decode cX1_doTurn 81 = .ok (.ireturn, 1) ∧ decode cX1_doTurn 82 = .ok (.iload 7, 2) ∧ decode cX1_doTurn 84 = .ok (.iconst 5, 1) ∧ decode cX1_doTurn 85 = .ok (.if_icmp .ne 13, 3) := by decide +kernel
theorem dX1_doTurn_59 : Dc cX1_doTurn 59 (.iconst 1) 1 60 := ⟨DX1_doTurn_c2.1, rfl⟩
theorem dX1_doTurn_60 : Dc cX1_doTurn 60 (.iadd) 1 61 := ⟨DX1_doTurn_c2.2.1, rfl⟩
theorem dX1_doTurn_61 : Dc cX1_doTurn 61 (.putfield 9) 3 64 := ⟨DX1_doTurn_c2.2.2.1, rfl⟩
theorem dX1_doTurn_64 : Dc cX1_doTurn 64 (.aload_n 1) 1 65 := ⟨DX1_doTurn_c2.2.2.2.1, rfl⟩
theorem dX1_doTurn_65 : Dc cX1_doTurn 65 (.iload 7) 2 67 := ⟨DX1_doTurn_c2.2.2.2.2.1, rfl⟩
theorem dX1_doTurn_67 : Dc cX1_doTurn 67 (.iload 8) 2 69 := ⟨DX1_doTurn_c2.2.2.2.2.2.1, rfl⟩
theorem dX1_doTurn_69 : Dc cX1_doTurn 69 (.invokevirtual 46) 3 72 := ⟨DX1_doTurn_c2.2.2.2.2.2.2.1, rfl⟩
theorem dX1_doTurn_72 : Db cX1_doTurn 72 (fun o => .ifCond .ne o) 75 82 := ⟨10, DX1_doTurn_c2.2.2.2.2.2.2.2.1, rfl, rfl⟩
theorem dX1_doTurn_75 : Dc cX1_doTurn 75 (.aload_n 0) 1 76 := ⟨DX1_doTurn_c2.2.2.2.2.2.2.2.2.1, rfl⟩
theorem dX1_doTurn_76 : Dc cX1_doTurn 76 (.iconst 2) 1 77 := ⟨DX1_doTurn_c2.2.2.2.2.2.2.2.2.2.1, rfl⟩
theorem dX1_doTurn_77 : Dc cX1_doTurn 77 (.putfield 18) 3 80 := ⟨DX1_doTurn_c2.2.2.2.2.2.2.2.2.2.2.1, rfl⟩
theorem dX1_doTurn_80 : Dc cX1_doTurn 80 (.iconst 0) 1 81 := ⟨DX1_doTurn_c2.2.2.2.2.2.2.2.2.2.2.2.1, rfl⟩
theorem dX1_doTurn_81 : Dc cX1_doTurn 81 (.ireturn) 1 82 := ⟨DX1_doTurn_c2.2.2.2.2.2.2.2.2.2.2.2.2.1, rfl⟩
theorem dX1_doTurn_82 : Dc cX1_doTurn 82 (.iload 7) 2 84 := ⟨DX1_doTurn_c2.2.2.2.2.2.2.2.2.2.2.2.2.2.1, rfl⟩
theorem dX1_doTurn_84 : Dc cX1_doTurn 84 (.iconst 5) 1 85 := ⟨DX1_doTurn_c2.2.2.2.2.2.2.2.2.2.2.2.2.2.2.1, rfl⟩
theorem dX1_doTurn_85 : Db cX1_doTurn 85 (fun o => .if_icmp .ne o) 88 98 := ⟨13, DX1_doTurn_c2.2.2.2.2.2.2.2.2.2.2.2.2.2.2.2, rfl, rfl⟩
theorem DX1_doTurn_c3 : decode cX1_doTurn 88 = .ok (.aload_n 0, 1) ∧ decode cX1_doTurn 89 = .ok (.dup, 1) ∧ decode cX1_doTurn 90 = .ok (.getfield 15, 3) ∧ decode cX1_doTurn 93 = .ok (.iconst 1, 1) ∧ decode cX1_doTurn 94 = .ok (.iadd, 1) ∧ decode cX1_doTurn 95 = .ok (.putfield 15, 3) ∧ decode cX1_doTurn 98 = .ok (.iinc 6 1, 3) ∧ decode cX1_doTurn 101 = .ok (.goto (-91), 3) ∧ decode cX1_doTurn 104 = .ok (.iconst 1, 1) ∧ decode cX1_doTurn 105 = .ok (.ireturn, 1) := by decide +kernel
theorem dX1_doTurn_88 : Dc cX1_doTurn 88 (.aload_n 0) 1 89 := ⟨DX1_doTurn_c3.1, rfl⟩
theorem dX1_doTurn_89 : Dc cX1_doTurn 89 (.dup) 1 90 := ⟨DX1_doTurn_c3.2.1, rfl⟩
theorem dX1_doTurn_90 : Dc cX1_doTurn 90 (.getfield 15) 3 93 := ⟨DX1_doTurn_c3.2.2.1, rfl⟩
theorem dX1_doTurn_93 : Dc cX1_doTurn 93 (.iconst 1) 1 94 := ⟨DX1_doTurn_c3.2.2.2.1, rfl⟩
theorem dX1_doTurn_94 : Dc cX1_doTurn 94 (.iadd) 1 95 := ⟨DX1_doTurn_c3.2.2.2.2.1, rfl⟩
theorem dX1_doTurn_95 : Dc cX1_doTurn 95 (.putfield 15) 3 98 := ⟨DX1_doTurn_c3.2.2.2.2.2.1, rfl⟩
theorem dX1_doTurn_98 : Dc cX1_doTurn 98 (.iinc 6 1) 3 101 := ⟨DX1_doTurn_c3.2.2.2.2.2.2.1, rfl⟩
theorem dX1_doTurn_101 : Db cX1_doTurn 101 .goto 104 10 := ⟨-91, DX1_doTurn_c3.2.2.2.2.2.2.2.1, rfl, rfl⟩
theorem dX1_doTurn_104 : Dc cX1_doTurn 104 (.iconst 1) 1 105 := ⟨DX1_doTurn_c3.2.2.2.2.2.2.2.2.1, rfl⟩
theorem dX1_doTurn_105 : Dc cX1_doTurn 105 (.ireturn) 1 106 := ⟨DX1_doTurn_c3.2.2.2.2.2.2.2.2.2, rfl⟩
theorem DX2_init_c0 : decode cX2_init 0 = .ok (.aload_n 0, 1) ∧ decode cX2_init 1 = .ok (.invokespecial 3, 3) ∧ decode cX2_init 4 = .ok (.aload_n 0, 1) ∧ decode cX2_init 5 = .ok (.bipush 30, 2) ∧ decode cX2_init 7 = .ok (.newarray .int, 2) ∧ decode cX2_init 9 = .ok (.putfield 9, 3) ∧ decode cX2_init 12 = .ok (.return_, 1) := by decide +kernel
theorem dX2_init_0 : Dc cX2_init 0 (.aload_n 0) 1 1 := ⟨DX2_init_c0.1, rfl⟩
theorem dX2_init_1 : Dc cX2_init 1 (.invokespecial 3) 3 4 := ⟨DX2_init_c0.2.1, rfl⟩
theorem dX2_init_4 : Dc cX2_init 4 (.aload_n 0) 1 5 := ⟨DX2_init_c0.2.2.1, rfl⟩
theorem dX2_init_5 : Dc cX2_init 5 (.bipush 30) 2 7 := ⟨DX2_init_c0.2.2.2.1, rfl⟩
theorem dX2_init_7 : Dc cX2_init 7 (.newarray .int) 2 9 := ⟨DX2_init_c0.2.2.2.2.1, rfl⟩
theorem dX2_init_9 : Dc cX2_init 9 (.putfield 9) 3 12 := ⟨DX2_init_c0.2.2.2.2.2.1, rfl⟩
theorem dX2_init_12 : Dc cX2_init 12 (.return_) 1 13 := ⟨DX2_init_c0.2.2.2.2.2.2, rfl⟩
theorem DX2_valueAt_c0 : decode cX2_valueAt 0 = .ok (.iload_n 1, 1) ∧ decode cX2_valueAt 1 = .ok (.ifCond .lt 21, 3) ∧ decode cX2_valueAt 4 = .ok (.iload_n 1, 1) ∧ decode cX2_valueAt 5 = .ok (.aload_n 0, 1) ∧ decode cX2_valueAt 6 = .ok (.getfield 9, 3) ∧ decode cX2_valueAt 9 = .ok (.arraylength, 1) ∧ decode cX2_valueAt 10 = .ok (.if_icmp .ge 12, 3) ∧ decode cX2_valueAt 13 = .ok (.aload_n 0, 1) ∧ decode cX2_valueAt 14 = .ok (.getfield 9, 3) ∧ decode cX2_valueAt 17 = .ok (.iload_n 1, 1) ∧ decode cX2_valueAt 18 = .ok (.iaload, 1) ∧ decode cX2_valueAt 19 = .ok (.goto 4, 3) ∧ decode cX2_valueAt 22 = .ok (.iconst 0, 1) ∧ decode cX2_valueAt 23 = .ok (.ireturn, 1) := by decide +kernel
theorem dX2_valueAt_0 : Dc cX2_valueAt 0 (.iload_n 1) 1 1 := ⟨DX2_valueAt_c0.1, rfl⟩
theorem dX2_valueAt_1 : Db cX2_valueAt 1 (fun o => .ifCond .lt o) 4 22 := ⟨21, DX2_valueAt_c0.2.1, rfl, rfl⟩
theorem dX2_valueAt_4 : Dc cX2_valueAt 4 (.iload_n 1) 1 5 := ⟨DX2_valueAt_c0.2.2.1, rfl⟩
theorem dX2_valueAt_5 : Dc cX2_valueAt 5 (.aload_n 0) 1 6 := ⟨DX2_valueAt_c0.2.2.2.1, rfl⟩
theorem dX2_valueAt_6 : Dc cX2_valueAt 6 (.getfield 9) 3 9 := ⟨DX2_valueAt_c0.2.2.2.2.1, rfl⟩
theorem dX2_valueAt_9 : Dc cX2_valueAt 9 (.arraylength) 1 10 := ⟨DX2_valueAt_c0.2.2.2.2.2.1, rfl⟩
theorem dX2_valueAt_10 : Db cX2_valueAt 10 (fun o => .if_icmp .ge o) 13 22 := ⟨12, DX2_valueAt_c0.2.2.2.2.2.2.1, rfl, rfl⟩
theorem dX2_valueAt_13 : Dc cX2_valueAt 13 (.aload_n 0) 1 14 := ⟨DX2_valueAt_c0.2.2.2.2.2.2.2.1, rfl⟩
theorem dX2_valueAt_14 : Dc cX2_valueAt 14 (.getfield 9) 3 17 := ⟨DX2_valueAt_c0.2.2.2.2.2.2.2.2.1, rfl⟩
theorem dX2_valueAt_17 : Dc cX2_valueAt 17 (.iload_n 1) 1 18 := ⟨DX2_valueAt_c0.2.2.2.2.2.2.2.2.2.1, rfl⟩
theorem dX2_valueAt_18 : Dc cX2_valueAt 18 (.iaload) 1 19 := ⟨DX2_valueAt_c0.2.2.2.2.2.2.2.2.2.2.1, rfl⟩
theorem dX2_valueAt_19 : Db cX2_valueAt 19 .goto 22 23 := ⟨4, DX2_valueAt_c0.2.2.2.2.2.2.2.2.2.2.2.1, rfl, rfl⟩
theorem dX2_valueAt_22 : Dc cX2_valueAt 22 (.iconst 0) 1 23 := ⟨DX2_valueAt_c0.2.2.2.2.2.2.2.2.2.2.2.2.1, rfl⟩
theorem dX2_valueAt_23 : Dc cX2_valueAt 23 (.ireturn) 1 24 := ⟨DX2_valueAt_c0.2.2.2.2.2.2.2.2.2.2.2.2.2, rfl⟩
theorem DX2_valueUnderHand_c0 : decode cX2_valueUnderHand 0 = .ok (.aload_n 0, 1) ∧ decode cX2_valueUnderHand 1 = .ok (.aload_n 0, 1) ∧ decode cX2_valueUnderHand 2 = .ok (.getfield 15, 3) ∧ decode cX2_valueUnderHand 5 = .ok (.invokevirtual 19, 3) ∧ decode cX2_valueUnderHand 8 = .ok (.ireturn, 1) := by decide +kernel
theorem dX2_valueUnderHand_0 : Dc cX2_valueUnderHand 0 (.aload_n 0) 1 1 := ⟨DX2_valueUnderHand_c0.1, rfl⟩
theorem dX2_valueUnderHand_1 : Dc cX2_valueUnderHand 1 (.aload_n 0) 1 2 := ⟨DX2_valueUnderHand_c0.2.1, rfl⟩
theorem dX2_valueUnderHand_2 : Dc cX2_valueUnderHand 2 (.getfield 15) 3 5 := ⟨DX2_valueUnderHand_c0.2.2.1, rfl⟩
theorem dX2_valueUnderHand_5 : Dc cX2_valueUnderHand 5 (.invokevirtual 19) 3 8 := ⟨DX2_valueUnderHand_c0.2.2.2.1, rfl⟩
theorem dX2_valueUnderHand_8 : Dc cX2_valueUnderHand 8 (.ireturn) 1 9 := ⟨DX2_valueUnderHand_c0.2.2.2.2, rfl⟩
theorem DX2_sum_c0 : decode cX2_sum 0 = .ok (.iconst 0, 1) ∧ decode cX2_sum 1 = .ok (.istore_n 1, 1) ∧ decode cX2_sum 2 = .ok (.aload_n 0, 1) ∧ decode cX2_sum 3 = .ok (.getfield 9, 3) ∧ decode cX2_sum 6 = .ok (.astore_n 2, 1) ∧ decode cX2_sum 7 = .ok (.aload_n 2, 1) ∧ decode cX2_sum 8 = .ok (.arraylength, 1) ∧ decode cX2_sum 9 = .ok (.istore_n 3, 1) ∧ decode cX2_sum 10 = .ok (.iconst 0, 1) ∧ decode cX2_sum 11 = .ok (.istore 4, 2) ∧ decode cX2_sum 13 = .ok (.iload 4, 2) ∧ decode cX2_sum 15 = .ok (.iload_n 3, 1) ∧ decode cX2_sum 16 = .ok (.if_icmp .ge 20, 3) ∧ decode cX2_sum 19 = .ok (.aload_n 2, 1) ∧ decode cX2_sum 20 = .ok (.iload 4, 2) ∧ decode cX2_sum 22 = .ok (.iaload, 1) := by decide +kernel
theorem dX2_sum_0 : Dc cX2_sum 0 (.iconst 0) 1 1 := ⟨DX2_sum_c0.1, rfl⟩
theorem dX2_sum_1 : Dc cX2_sum 1 (.istore_n 1) 1 2 := ⟨DX2_sum_c0.2.1, rfl⟩
theorem dX2_sum_2 : Dc cX2_sum 2 (.aload_n 0) 1 3 := ⟨DX2_sum_c0.2.2.1, rfl⟩
theorem dX2_sum_3 : Dc cX2_sum 3 (.getfield 9) 3 6 := ⟨DX2_sum_c0.2.2.2.1, rfl⟩
theorem dX2_sum_6 : Dc cX2_sum 6 (.astore_n 2) 1 7 := ⟨DX2_sum_c0.2.2.2.2.1, rfl⟩
theorem dX2_sum_7 : Dc cX2_sum 7 (.aload_n 2) 1 8 := ⟨DX2_sum_c0.2.2.2.2.2.1, rfl⟩
theorem dX2_sum_8 : Dc cX2_sum 8 (.arraylength) 1 9 := ⟨DX2_sum_c0.2.2.2.2.2.2.1, rfl⟩
theorem dX2_sum_9 : Dc cX2_sum 9 (.istore_n 3) 1 10 := ⟨DX2_sum_c0.2.2.2.2.2.2.2.1, rfl⟩
theorem dX2_sum_10 : Dc cX2_sum 10 (.iconst 0) 1 11 := ⟨DX2_sum_c0.2.2.2.2.2.2.2.2.1, rfl⟩
theorem dX2_sum_11 : Dc cX2_sum 11 (.istore 4) 2 13 := ⟨DX2_sum_c0.2.2.2.2.2.2.2.2.2.1, rfl⟩
theorem dX2_sum_13 : Dc cX2_sum 13 (.iload 4) 2 15 := ⟨DX2_sum_c0.2.2.2.2.2.2.2.2.2.2.1, rfl⟩
theorem dX2_sum_15 : Dc cX2_sum 15 (.iload_n 3) 1 16 := ⟨DX2_sum_c0.2.2.2.2.2.2.2.2.2.2.2.1, rfl⟩
theorem dX2_sum_16 : Db cX2_sum 16 (fun o => .if_icmp .ge o) 19 36 := ⟨20, DX2_sum_c0.2.2.2.2.2.2.2.2.2.2.2.2.1, rfl, rfl⟩
theorem dX2_sum_19 : Dc cX2_sum 19 (.aload_n 2) 1 20 := ⟨DX2_sum_c0.2.2.2.2.2.2.2.2.2.2.2.2.2.1, rfl⟩
theorem dX2_sum_20 : Dc cX2_sum 20 (.iload 4) 2 22 := ⟨DX2_sum_c0.2.2.2.2.2.2.2.2.2.2.2.2.2.2.1, rfl⟩
theorem dX2_sum_22 : Dc cX2_sum 22 (.iaload) 1 23 := ⟨DX2_sum_c0.2.2.2.2.2.2.2.2.2.2.2.2.2.2.2, rfl⟩
theorem DX2_sum_c1 : decode cX2_sum 23 = .ok (.istore 5, 2) ∧ decode cX2_sum 25 = .ok (.iload_n 1, 1) ∧ decode cX2_sum 26 = .ok (.iload 5, 2) ∧ decode cX2_sum 28 = .ok (.iadd, 1) ∧ decode cX2_sum 29 = .ok (.istore_n 1, 1) ∧ decode cX2_sum 30 = .ok (.iinc 4 1, 3) ∧ decode cX2_sum 33 = .ok (.goto (-20), 3) ∧ decode cX2_sum 36 = .ok (.iload_n 1, 1) ∧ decode cX2_sum 37 = .ok (.ireturn, 1) := by decide +kernel
theorem dX2_sum_23 : Dc cX2_sum 23 (.istore 5) 2 25 := ⟨DX2_sum_c1.1, rfl⟩
theorem dX2_sum_25 : Dc cX2_sum 25 (.iload_n 1) 1 26 := ⟨DX2_sum_c1.2.1, rfl⟩
theorem dX2_sum_26 : Dc cX2_sum 26 (.iload 5) 2 28 := ⟨DX2_sum_c1.2.2.1, rfl⟩
theorem dX2_sum_28 : Dc cX2_sum 28 (.iadd) 1 29 := ⟨DX2_sum_c1.2.2.2.1, rfl⟩
theorem dX2_sum_29 : Dc cX2_sum 29 (.istore_n 1) 1 30 := ⟨DX2_sum_c1.2.2.2.2.1, rfl⟩
theorem dX2_sum_30 : Dc cX2_sum 30 (.iinc 4 1) 3 33 := ⟨DX2_sum_c1.2.2.2.2.2.1, rfl⟩
theorem dX2_sum_33 : Db cX2_sum 33 .goto 36 13 := ⟨-20, DX2_sum_c1.2.2.2.2.2.2.1, rfl, rfl⟩
theorem dX2_sum_36 : Dc cX2_sum 36 (.iload_n 1) 1 37 := ⟨DX2_sum_c1.2.2.2.2.2.2.2.1, rfl⟩
theorem dX2_sum_37 : Dc cX2_sum 37 (.ireturn) 1 38 := ⟨DX2_sum_c1.2.2.2.2.2.2.2.2, rfl⟩
theorem DX2_copyFrom_c0 : decode cX2_copyFrom 0 = .ok (.aload_n 1, 1) ∧ decode cX2_copyFrom 1 = .ok (.getfield 9, 3) ∧ decode cX2_copyFrom 4 = .ok (.aload_n 0, 1) ∧ decode cX2_copyFrom 5 = .ok (.getfield 9, 3) ∧ decode cX2_copyFrom 8 = .ok (.invokestatic 23, 3) ∧ decode cX2_copyFrom 11 = .ok (.aload_n 0, 1) ∧ decode cX2_copyFrom 12 = .ok (.aload_n 1, 1) ∧ decode cX2_copyFrom 13 = .ok (.getfield 15, 3) ∧ decode cX2_copyFrom 16 = .ok (.putfield 15, 3) ∧ decode cX2_copyFrom 19 = .ok (.return_, 1) := by decide +kernel
theorem dX2_copyFrom_0 : Dc cX2_copyFrom 0 (.aload_n 1) 1 1 := ⟨DX2_copyFrom_c0.1, rfl⟩
theorem dX2_copyFrom_1 : Dc cX2_copyFrom 1 (.getfield 9) 3 4 := ⟨DX2_copyFrom_c0.2.1, rfl⟩
theorem dX2_copyFrom_4 : Dc cX2_copyFrom 4 (.aload_n 0) 1 5 := ⟨DX2_copyFrom_c0.2.2.1, rfl⟩
theorem dX2_copyFrom_5 : Dc cX2_copyFrom 5 (.getfield 9) 3 8 := ⟨DX2_copyFrom_c0.2.2.2.1, rfl⟩
theorem dX2_copyFrom_8 : Dc cX2_copyFrom 8 (.invokestatic 23) 3 11 := ⟨DX2_copyFrom_c0.2.2.2.2.1, rfl⟩
theorem dX2_copyFrom_11 : Dc cX2_copyFrom 11 (.aload_n 0) 1 12 := ⟨DX2_copyFrom_c0.2.2.2.2.2.1, rfl⟩
theorem dX2_copyFrom_12 : Dc cX2_copyFrom 12 (.aload_n 1) 1 13 := ⟨DX2_copyFrom_c0.2.2.2.2.2.2.1, rfl⟩
theorem dX2_copyFrom_13 : Dc cX2_copyFrom 13 (.getfield 15) 3 16 := ⟨DX2_copyFrom_c0.2.2.2.2.2.2.2.1, rfl⟩
theorem dX2_copyFrom_16 : Dc cX2_copyFrom 16 (.putfield 15) 3 19 := ⟨DX2_copyFrom_c0.2.2.2.2.2.2.2.2.1, rfl⟩
theorem dX2_copyFrom_19 : Dc cX2_copyFrom 19 (.return_) 1 20 := ⟨DX2_copyFrom_c0.2.2.2.2.2.2.2.2.2, rfl⟩
theorem DX2_obey_c0 : decode cX2_obey 0 = .ok (.aload_n 0, 1) ∧ decode cX2_obey 1 = .ok (.invokevirtual 27, 3) ∧ decode cX2_obey 4 = .ok (.istore_n 3, 1) ∧ decode cX2_obey 5 = .ok (.iload_n 1, 1) ∧ decode cX2_obey 6 = .ok (.tableswitch 104 0 4 #[34, 41, 52, 68, 83], 34) ∧ decode cX2_obey 40 = .ok (.aload_n 0, 1) ∧ decode cX2_obey 41 = .ok (.iload_n 2, 1) ∧ decode cX2_obey 42 = .ok (.putfield 15, 3) ∧ decode cX2_obey 45 = .ok (.iconst 1, 1) ∧ decode cX2_obey 46 = .ok (.ireturn, 1) ∧ decode cX2_obey 47 = .ok (.aload_n 0, 1) ∧ decode cX2_obey 48 = .ok (.aload_n 0, 1) ∧ decode cX2_obey 49 = .ok (.getfield 15, 3) ∧ decode cX2_obey 52 = .ok (.iload_n 2, 1) ∧ decode cX2_obey 53 = .ok (.invokevirtual 31, 3) ∧ decode cX2_obey 56 = .ok (.iconst 1, 1) := by decide +kernel
theorem dX2_obey_0 : Dc cX2_obey 0 (.aload_n 0) 1 1 := ⟨DX2_obey_c0.1, rfl⟩
theorem dX2_obey_1 : Dc cX2_obey 1 (.invokevirtual 27) 3 4 := ⟨DX2_obey_c0.2.1, rfl⟩
theorem dX2_obey_4 : Dc cX2_obey 4 (.istore_n 3) 1 5 := ⟨DX2_obey_c0.2.2.1, rfl⟩
theorem dX2_obey_5 : Dc cX2_obey 5 (.iload_n 1) 1 6 := ⟨DX2_obey_c0.2.2.2.1, rfl⟩
theorem dX2_obey_6 : decode cX2_obey 6 = .ok (.tableswitch 104 0 4 #[34, 41, 52, 68, 83], 34) := DX2_obey_c0.2.2.2.2.1
theorem dX2_obey_40 : Dc cX2_obey 40 (.aload_n 0) 1 41 := ⟨DX2_obey_c0.2.2.2.2.2.1, rfl⟩
theorem dX2_obey_41 : Dc cX2_obey 41 (.iload_n 2) 1 42 := ⟨DX2_obey_c0.2.2.2.2.2.2.1, rfl⟩
theorem dX2_obey_42 : Dc cX2_obey 42 (.putfield 15) 3 45 := ⟨DX2_obey_c0.2.2.2.2.2.2.2.1, rfl⟩
theorem dX2_obey_45 : Dc cX2_obey 45 (.iconst 1) 1 46 := ⟨DX2_obey_c0.2.2.2.2.2.2.2.2.1, rfl⟩
theorem dX2_obey_46 : Dc cX2_obey 46 (.ireturn) 1 47 := ⟨DX2_obey_c0.2.2.2.2.2.2.2.2.2.1, rfl⟩
theorem dX2_obey_47 : Dc cX2_obey 47 (.aload_n 0) 1 48 := ⟨DX2_obey_c0.2.2.2.2.2.2.2.2.2.2.1, rfl⟩
theorem dX2_obey_48 : Dc cX2_obey 48 (.aload_n 0) 1 49 := ⟨DX2_obey_c0.2.2.2.2.2.2.2.2.2.2.2.1, rfl⟩
theorem dX2_obey_49 : Dc cX2_obey 49 (.getfield 15) 3 52 := ⟨DX2_obey_c0.2.2.2.2.2.2.2.2.2.2.2.2.1, rfl⟩
theorem dX2_obey_52 : Dc cX2_obey 52 (.iload_n 2) 1 53 := ⟨DX2_obey_c0.2.2.2.2.2.2.2.2.2.2.2.2.2.1, rfl⟩
theorem dX2_obey_53 : Dc cX2_obey 53 (.invokevirtual 31) 3 56 := ⟨DX2_obey_c0.2.2.2.2.2.2.2.2.2.2.2.2.2.2.1, rfl⟩
theorem dX2_obey_56 : Dc cX2_obey 56 (.iconst 1) 1 57 := ⟨DX2_obey_c0.2.2.2.2.2.2.2.2.2.2.2.2.2.2.2, rfl⟩
theorem DX2_obey_c1 : decode cX2_obey 57 = .ok (.ireturn, 1) ∧ decode cX2_obey 58 = .ok (.aload_n 0, 1) ∧ decode cX2_obey 59 = .ok (.aload_n 0, 1) ∧ decode cX2_obey 60 = .ok (.getfield 15, 3) ∧ decode cX2_obey 63 = .ok (.iload_n 3, 1) ∧ decode cX2_obey 64 = .ok (.iload_n 2, 1) ∧ decode cX2_obey 65 = .ok (.iadd, 1) ∧ decode cX2_obey 66 = .ok (.bipush 100, 2) ∧ decode cX2_obey 68 = .ok (.irem, 1) ∧ decode cX2_obey 69 = .ok (.invokevirtual 31, 3) ∧ decode cX2_obey 72 = .ok (.iconst 1, 1) ∧ decode cX2_obey 73 = .ok (.ireturn, 1) ∧ decode cX2_obey 74 = .ok (.aload_n 0, 1) ∧ decode cX2_obey 75 = .ok (.aload_n 0, 1) ∧ decode cX2_obey 76 = .ok (.getfield 15, 3) ∧ decode cX2_obey 79 = .ok (.aload_n 0, 1) := by decide +kernel
theorem dX2_obey_57 : Dc cX2_obey 57 (.ireturn) 1 58 := ⟨DX2_obey_c1.1, rfl⟩
theorem dX2_obey_58 : Dc cX2_obey 58 (.aload_n 0) 1 59 := ⟨DX2_obey_c1.2.1, rfl⟩
theorem dX2_obey_59 : Dc cX2_obey 59 (.aload_n 0) 1 60 := ⟨DX2_obey_c1.2.2.1, rfl⟩
theorem dX2_obey_60 : Dc cX2_obey 60 (.getfield 15) 3 63 := ⟨DX2_obey_c1.2.2.2.1, rfl⟩
theorem dX2_obey_63 : Dc cX2_obey 63 (.iload_n 3) 1 64 := ⟨DX2_obey_c1.2.2.2.2.1, rfl⟩
theorem dX2_obey_64 : Dc cX2_obey 64 (.iload_n 2) 1 65 := ⟨DX2_obey_c1.2.2.2.2.2.1, rfl⟩
theorem dX2_obey_65 : Dc cX2_obey 65 (.iadd) 1 66 := ⟨DX2_obey_c1.2.2.2.2.2.2.1, rfl⟩
theorem dX2_obey_66 : Dc cX2_obey 66 (.bipush 100) 2 68 := ⟨DX2_obey_c1.2.2.2.2.2.2.2.1, rfl⟩
theorem dX2_obey_68 : Dc cX2_obey 68 (.irem) 1 69 := ⟨DX2_obey_c1.2.2.2.2.2.2.2.2.1, rfl⟩
theorem dX2_obey_69 : Dc cX2_obey 69 (.invokevirtual 31) 3 72 := ⟨DX2_obey_c1.2.2.2.2.2.2.2.2.2.1, rfl⟩
theorem dX2_obey_72 : Dc cX2_obey 72 (.iconst 1) 1 73 := ⟨DX2_obey_c1.2.2.2.2.2.2.2.2.2.2.1, rfl⟩
theorem dX2_obey_73 : Dc cX2_obey 73 (.ireturn) 1 74 := ⟨DX2_obey_c1.2.2.2.2.2.2.2.2.2.2.2.1, rfl⟩
theorem dX2_obey_74 : Dc cX2_obey 74 (.aload_n 0) 1 75 := ⟨DX2_obey_c1.2.2.2.2.2.2.2.2.2.2.2.2.1, rfl⟩
theorem dX2_obey_75 : Dc cX2_obey 75 (.aload_n 0) 1 76 := ⟨DX2_obey_c1.2.2.2.2.2.2.2.2.2.2.2.2.2.1, rfl⟩
theorem dX2_obey_76 : Dc cX2_obey 76 (.getfield 15) 3 79 := ⟨DX2_obey_c1.2.2.2.2.2.2.2.2.2.2.2.2.2.2.1, rfl⟩
theorem dX2_obey_79 : Dc cX2_obey 79 (.aload_n 0) 1 80 := ⟨DX2_obey_c1.2.2.2.2.2.2.2.2.2.2.2.2.2.2.2, rfl⟩
theorem DX2_obey_c2 : decode cX2_obey 80 = .ok (.iload_n 2, 1) ∧ decode cX2_obey 81 = .ok (.invokevirtual 19, 3) ∧ decode cX2_obey 84 = .ok (.invokevirtual 31, 3) ∧ decode cX2_obey 87 = .ok (.iconst 1, 1) ∧ decode cX2_obey 88 = .ok (.ireturn, 1) ∧ decode cX2_obey 89 = .ok (.aload_n 0, 1) ∧ decode cX2_obey 90 = .ok (.aload_n 0, 1) ∧ decode cX2_obey 91 = .ok (.getfield 15, 3) ∧ decode cX2_obey 94 = .ok (.aload_n 0, 1) ∧ decode cX2_obey 95 = .ok (.iload_n 2, 1) ∧ decode cX2_obey 96 = .ok (.invokevirtual 19, 3) ∧ decode cX2_obey 99 = .ok (.invokevirtual 31, 3) ∧ decode cX2_obey 102 = .ok (.aload_n 0, 1) ∧ decode cX2_obey 103 = .ok (.iload_n 2, 1) ∧ decode cX2_obey 104 = .ok (.iload_n 3, 1) ∧ decode cX2_obey 105 = .ok (.invokevirtual 31, 3) := by decide +kernel
theorem dX2_obey_80 : Dc cX2_obey 80 (.iload_n 2) 1 81 := ⟨DX2_obey_c2.1, rfl⟩
theorem dX2_obey_81 : Dc cX2_obey 81 (.invokevirtual 19) 3 84 := ⟨DX2_obey_c2.2.1, rfl⟩
theorem dX2_obey_84 : Dc cX2_obey 84 (.invokevirtual 31) 3 87 := ⟨DX2_obey_c2.2.2.1, rfl⟩
theorem dX2_obey_87 : Dc cX2_obey 87 (.iconst 1) 1 88 := ⟨DX2_obey_c2.2.2.2.1, rfl⟩
theorem dX2_obey_88 : Dc cX2_obey 88 (.ireturn) 1 89 := ⟨DX2_obey_c2.2.2.2.2.1, rfl⟩
theorem dX2_obey_89 : Dc cX2_obey 89 (.aload_n 0) 1 90 := ⟨DX2_obey_c2.2.2.2.2.2.1, rfl⟩
theorem dX2_obey_90 : Dc cX2_obey 90 (.aload_n 0) 1 91 := ⟨DX2_obey_c2.2.2.2.2.2.2.1, rfl⟩
theorem dX2_obey_91 : Dc cX2_obey 91 (.getfield 15) 3 94 := ⟨DX2_obey_c2.2.2.2.2.2.2.2.1, rfl⟩
theorem dX2_obey_94 : Dc cX2_obey 94 (.aload_n 0) 1 95 := ⟨DX2_obey_c2.2.2.2.2.2.2.2.2.1, rfl⟩
theorem dX2_obey_95 : Dc cX2_obey 95 (.iload_n 2) 1 96 := ⟨DX2_obey_c2.2.2.2.2.2.2.2.2.2.1, rfl⟩
theorem dX2_obey_96 : Dc cX2_obey 96 (.invokevirtual 19) 3 99 := ⟨DX2_obey_c2.2.2.2.2.2.2.2.2.2.2.1, rfl⟩
theorem dX2_obey_99 : Dc cX2_obey 99 (.invokevirtual 31) 3 102 := ⟨DX2_obey_c2.2.2.2.2.2.2.2.2.2.2.2.1, rfl⟩
theorem dX2_obey_102 : Dc cX2_obey 102 (.aload_n 0) 1 103 := ⟨DX2_obey_c2.2.2.2.2.2.2.2.2.2.2.2.2.1, rfl⟩
theorem dX2_obey_103 : Dc cX2_obey 103 (.iload_n 2) 1 104 := ⟨DX2_obey_c2.2.2.2.2.2.2.2.2.2.2.2.2.2.1, rfl⟩
theorem dX2_obey_104 : Dc cX2_obey 104 (.iload_n 3) 1 105 := ⟨DX2_obey_c2.2.2.2.2.2.2.2.2.2.2.2.2.2.2.1, rfl⟩
theorem dX2_obey_105 : Dc cX2_obey 105 (.invokevirtual 31) 3 108 := ⟨DX2_obey_c2.2.2.2.2.2.2.2.2.2.2.2.2.2.2.2, rfl⟩
theorem DX2_obey_c3 : decode cX2_obey 108 = .ok (.iconst 1, 1) ∧ decode cX2_obey 109 = .ok (.ireturn, 1) ∧ decode cX2_obey 110 = .ok (.iload_n 3, 1) ∧ decode cX2_obey 111 = .ok (.iload_n 2, 1) ∧ decode cX2_obey 112 = .ok (.if_icmp .gt 7, 3) ∧ decode cX2_obey 115 = .ok (.iconst 1, 1) ∧ decode cX2_obey 116 = .ok (.goto 4, 3) ∧ decode cX2_obey 119 = .ok (.iconst 0, 1) ∧ decode cX2_obey 120 = .ok (.ireturn, 1) := by decide +kernel
theorem dX2_obey_108 : Dc cX2_obey 108 (.iconst 1) 1 109 := ⟨DX2_obey_c3.1, rfl⟩
theorem dX2_obey_109 : Dc cX2_obey 109 (.ireturn) 1 110 := ⟨DX2_obey_c3.2.1, rfl⟩
theorem dX2_obey_110 : Dc cX2_obey 110 (.iload_n 3) 1 111 := ⟨DX2_obey_c3.2.2.1, rfl⟩
theorem dX2_obey_111 : Dc cX2_obey 111 (.iload_n 2) 1 112 := ⟨DX2_obey_c3.2.2.2.1, rfl⟩
theorem dX2_obey_112 : Db cX2_obey 112 (fun o => .if_icmp .gt o) 115 119 := ⟨7, DX2_obey_c3.2.2.2.2.1, rfl, rfl⟩
theorem dX2_obey_115 : Dc cX2_obey 115 (.iconst 1) 1 116 := ⟨DX2_obey_c3.2.2.2.2.2.1, rfl⟩
theorem dX2_obey_116 : Db cX2_obey 116 .goto 119 120 := ⟨4, DX2_obey_c3.2.2.2.2.2.2.1, rfl, rfl⟩
theorem dX2_obey_119 : Dc cX2_obey 119 (.iconst 0) 1 120 := ⟨DX2_obey_c3.2.2.2.2.2.2.2.1, rfl⟩
theorem dX2_obey_120 : Dc cX2_obey 120 (.ireturn) 1 121 := ⟨DX2_obey_c3.2.2.2.2.2.2.2.2, rfl⟩
theorem DX2_put_c0 : decode cX2_put 0 = .ok (.iload_n 1, 1) ∧ decode cX2_put 1 = .ok (.ifCond .lt 19, 3) ∧ decode cX2_put 4 = .ok (.iload_n 1, 1) ∧ decode cX2_put 5 = .ok (.aload_n 0, 1) ∧ decode cX2_put 6 = .ok (.getfield 9, 3) ∧ decode cX2_put 9 = .ok (.arraylength, 1) ∧ decode cX2_put 10 = .ok (.if_icmp .ge 10, 3) ∧ decode cX2_put 13 = .ok (.aload_n 0, 1) ∧ decode cX2_put 14 = .ok (.getfield 9, 3) ∧ decode cX2_put 17 = .ok (.iload_n 1, 1) ∧ decode cX2_put 18 = .ok (.iload_n 2, 1) ∧ decode cX2_put 19 = .ok (.iastore, 1) ∧ decode cX2_put 20 = .ok (.return_, 1) := by decide +kernel
theorem dX2_put_0 : Dc cX2_put 0 (.iload_n 1) 1 1 := ⟨DX2_put_c0.1, rfl⟩
theorem dX2_put_1 : Db cX2_put 1 (fun o => .ifCond .lt o) 4 20 := ⟨19, DX2_put_c0.2.1, rfl, rfl⟩
theorem dX2_put_4 : Dc cX2_put 4 (.iload_n 1) 1 5 := ⟨DX2_put_c0.2.2.1, rfl⟩
theorem dX2_put_5 : Dc cX2_put 5 (.aload_n 0) 1 6 := ⟨DX2_put_c0.2.2.2.1, rfl⟩
theorem dX2_put_6 : Dc cX2_put 6 (.getfield 9) 3 9 := ⟨DX2_put_c0.2.2.2.2.1, rfl⟩
theorem dX2_put_9 : Dc cX2_put 9 (.arraylength) 1 10 := ⟨DX2_put_c0.2.2.2.2.2.1, rfl⟩
theorem dX2_put_10 : Db cX2_put 10 (fun o => .if_icmp .ge o) 13 20 := ⟨10, DX2_put_c0.2.2.2.2.2.2.1, rfl, rfl⟩
theorem dX2_put_13 : Dc cX2_put 13 (.aload_n 0) 1 14 := ⟨DX2_put_c0.2.2.2.2.2.2.2.1, rfl⟩
theorem dX2_put_14 : Dc cX2_put 14 (.getfield 9) 3 17 := ⟨DX2_put_c0.2.2.2.2.2.2.2.2.1, rfl⟩
theorem dX2_put_17 : Dc cX2_put 17 (.iload_n 1) 1 18 := ⟨DX2_put_c0.2.2.2.2.2.2.2.2.2.1, rfl⟩
theorem dX2_put_18 : Dc cX2_put 18 (.iload_n 2) 1 19 := ⟨DX2_put_c0.2.2.2.2.2.2.2.2.2.2.1, rfl⟩
theorem dX2_put_19 : Dc cX2_put 19 (.iastore) 1 20 := ⟨DX2_put_c0.2.2.2.2.2.2.2.2.2.2.2.1, rfl⟩
theorem dX2_put_20 : Dc cX2_put 20 (.return_) 1 21 := ⟨DX2_put_c0.2.2.2.2.2.2.2.2.2.2.2.2, rfl⟩
theorem DX3_init_c0 : decode cX3_init 0 = .ok (.aload_n 0, 1) ∧ decode cX3_init 1 = .ok (.invokespecial 1, 3) ∧ decode cX3_init 4 = .ok (.iconst 0, 1) ∧ decode cX3_init 5 = .ok (.iload_n 1, 1) ∧ decode cX3_init 6 = .ok (.invokestatic 7, 3) ∧ decode cX3_init 9 = .ok (.istore_n 3, 1) ∧ decode cX3_init 10 = .ok (.aload_n 0, 1) ∧ decode cX3_init 11 = .ok (.iconst 0, 1) ∧ decode cX3_init 12 = .ok (.iload_n 2, 1) ∧ decode cX3_init 13 = .ok (.invokestatic 7, 3) ∧ decode cX3_init 16 = .ok (.putfield 13, 3) ∧ decode cX3_init 19 = .ok (.iconst 0, 1) ∧ decode cX3_init 20 = .ok (.iload_n 3, 1) ∧ decode cX3_init 21 = .ok (.aload_n 0, 1) ∧ decode cX3_init 22 = .ok (.getfield 13, 3) ∧ decode cX3_init 25 = .ok (.imul, 1) := by decide +kernel
theorem dX3_init_0 : Dc cX3_init 0 (.aload_n 0) 1 1 := ⟨DX3_init_c0.1, rfl⟩
theorem dX3_init_1 : Dc cX3_init 1 (.invokespecial 1) 3 4 := ⟨DX3_init_c0.2.1, rfl⟩
theorem dX3_init_4 : Dc cX3_init 4 (.iconst 0) 1 5 := ⟨DX3_init_c0.2.2.1, rfl⟩
theorem dX3_init_5 : Dc cX3_init 5 (.iload_n 1) 1 6 := ⟨DX3_init_c0.2.2.2.1, rfl⟩
theorem dX3_init_6 : Dc cX3_init 6 (.invokestatic 7) 3 9 := ⟨DX3_init_c0.2.2.2.2.1, rfl⟩
theorem dX3_init_9 : Dc cX3_init 9 (.istore_n 3) 1 10 := ⟨DX3_init_c0.2.2.2.2.2.1, rfl⟩
theorem dX3_init_10 : Dc cX3_init 10 (.aload_n 0) 1 11 := ⟨DX3_init_c0.2.2.2.2.2.2.1, rfl⟩
theorem dX3_init_11 : Dc cX3_init 11 (.iconst 0) 1 12 := ⟨DX3_init_c0.2.2.2.2.2.2.2.1, rfl⟩
theorem dX3_init_12 : Dc cX3_init 12 (.iload_n 2) 1 13 := ⟨DX3_init_c0.2.2.2.2.2.2.2.2.1, rfl⟩
theorem dX3_init_13 : Dc cX3_init 13 (.invokestatic 7) 3 16 := ⟨DX3_init_c0.2.2.2.2.2.2.2.2.2.1, rfl⟩
theorem dX3_init_16 : Dc cX3_init 16 (.putfield 13) 3 19 := ⟨DX3_init_c0.2.2.2.2.2.2.2.2.2.2.1, rfl⟩
theorem dX3_init_19 : Dc cX3_init 19 (.iconst 0) 1 20 := ⟨DX3_init_c0.2.2.2.2.2.2.2.2.2.2.2.1, rfl⟩
theorem dX3_init_20 : Dc cX3_init 20 (.iload_n 3) 1 21 := ⟨DX3_init_c0.2.2.2.2.2.2.2.2.2.2.2.2.1, rfl⟩
theorem dX3_init_21 : Dc cX3_init 21 (.aload_n 0) 1 22 := ⟨DX3_init_c0.2.2.2.2.2.2.2.2.2.2.2.2.2.1, rfl⟩
theorem dX3_init_22 : Dc cX3_init 22 (.getfield 13) 3 25 := ⟨DX3_init_c0.2.2.2.2.2.2.2.2.2.2.2.2.2.2.1, rfl⟩
theorem dX3_init_25 : Dc cX3_init 25 (.imul) 1 26 := ⟨DX3_init_c0.2.2.2.2.2.2.2.2.2.2.2.2.2.2.2, rfl⟩
theorem DX3_init_c1 : decode cX3_init 26 = .ok (.invokestatic 7, 3) ∧ decode cX3_init 29 = .ok (.istore 4, 2) ∧ decode cX3_init 31 = .ok (.aload_n 0, 1) ∧ decode cX3_init 32 = .ok (.iload 4, 2) ∧ decode cX3_init 34 = .ok (.newarray .int, 2) ∧ decode cX3_init 36 = .ok (.putfield 19, 3) ∧ decode cX3_init 39 = .ok (.aload_n 0, 1) ∧ decode cX3_init 40 = .ok (.iload 4, 2) ∧ decode cX3_init 42 = .ok (.newarray .int, 2) ∧ decode cX3_init 44 = .ok (.putfield 23, 3) ∧ decode cX3_init 47 = .ok (.aload_n 0, 1) ∧ decode cX3_init 48 = .ok (.iload 4, 2) ∧ decode cX3_init 50 = .ok (.newarray .int, 2) ∧ decode cX3_init 52 = .ok (.putfield 26, 3) ∧ decode cX3_init 55 = .ok (.aload_n 0, 1) ∧ decode cX3_init 56 = .ok (.iload_n 3, 1) := by decide +kernel
theorem dX3_init_26 : Dc cX3_init 26 (.invokestatic 7) 3 29 := ⟨DX3_init_c1.1, rfl⟩
theorem dX3_init_29 : Dc cX3_init 29 (.istore 4) 2 31 := ⟨DX3_init_c1.2.1, rfl⟩
theorem dX3_init_31 : Dc cX3_init 31 (.aload_n 0) 1 32 := ⟨DX3_init_c1.2.2.1, rfl⟩
theorem dX3_init_32 : Dc cX3_init 32 (.iload 4) 2 34 := ⟨DX3_init_c1.2.2.2.1, rfl⟩
theorem dX3_init_34 : Dc cX3_init 34 (.newarray .int) 2 36 := ⟨DX3_init_c1.2.2.2.2.1, rfl⟩
theorem dX3_init_36 : Dc cX3_init 36 (.putfield 19) 3 39 := ⟨DX3_init_c1.2.2.2.2.2.1, rfl⟩
theorem dX3_init_39 : Dc cX3_init 39 (.aload_n 0) 1 40 := ⟨DX3_init_c1.2.2.2.2.2.2.1, rfl⟩
theorem dX3_init_40 : Dc cX3_init 40 (.iload 4) 2 42 := ⟨DX3_init_c1.2.2.2.2.2.2.2.1, rfl⟩
theorem dX3_init_42 : Dc cX3_init 42 (.newarray .int) 2 44 := ⟨DX3_init_c1.2.2.2.2.2.2.2.2.1, rfl⟩
theorem dX3_init_44 : Dc cX3_init 44 (.putfield 23) 3 47 := ⟨DX3_init_c1.2.2.2.2.2.2.2.2.2.1, rfl⟩
theorem dX3_init_47 : Dc cX3_init 47 (.aload_n 0) 1 48 := ⟨DX3_init_c1.2.2.2.2.2.2.2.2.2.2.1, rfl⟩
theorem dX3_init_48 : Dc cX3_init 48 (.iload 4) 2 50 := ⟨DX3_init_c1.2.2.2.2.2.2.2.2.2.2.2.1, rfl⟩
theorem dX3_init_50 : Dc cX3_init 50 (.newarray .int) 2 52 := ⟨DX3_init_c1.2.2.2.2.2.2.2.2.2.2.2.2.1, rfl⟩
theorem dX3_init_52 : Dc cX3_init 52 (.putfield 26) 3 55 := ⟨DX3_init_c1.2.2.2.2.2.2.2.2.2.2.2.2.2.1, rfl⟩
theorem dX3_init_55 : Dc cX3_init 55 (.aload_n 0) 1 56 := ⟨DX3_init_c1.2.2.2.2.2.2.2.2.2.2.2.2.2.2.1, rfl⟩
theorem dX3_init_56 : Dc cX3_init 56 (.iload_n 3) 1 57 := ⟨DX3_init_c1.2.2.2.2.2.2.2.2.2.2.2.2.2.2.2, rfl⟩
theorem DX3_init_c2 : decode cX3_init 57 = .ok (.newarray .int, 2) ∧ decode cX3_init 59 = .ok (.putfield 29, 3) ∧ decode cX3_init 62 = .ok (.aload_n 0, 1) ∧ decode cX3_init 63 = .ok (.iload_n 3, 1) ∧ decode cX3_init 64 = .ok (.newarray .int, 2) ∧ decode cX3_init 66 = .ok (.putfield 32, 3) ∧ decode cX3_init 69 = .ok (.return_, 1) := by decide +kernel
theorem dX3_init_57 : Dc cX3_init 57 (.newarray .int) 2 59 := ⟨DX3_init_c2.1, rfl⟩
theorem dX3_init_59 : Dc cX3_init 59 (.putfield 29) 3 62 := ⟨DX3_init_c2.2.1, rfl⟩
theorem dX3_init_62 : Dc cX3_init 62 (.aload_n 0) 1 63 := ⟨DX3_init_c2.2.2.1, rfl⟩
theorem dX3_init_63 : Dc cX3_init 63 (.iload_n 3) 1 64 := ⟨DX3_init_c2.2.2.2.1, rfl⟩
theorem dX3_init_64 : Dc cX3_init 64 (.newarray .int) 2 66 := ⟨DX3_init_c2.2.2.2.2.1, rfl⟩
theorem dX3_init_66 : Dc cX3_init 66 (.putfield 32) 3 69 := ⟨DX3_init_c2.2.2.2.2.2.1, rfl⟩
theorem dX3_init_69 : Dc cX3_init 69 (.return_) 1 70 := ⟨DX3_init_c2.2.2.2.2.2.2, rfl⟩
theorem DX3_holds_c0 : decode cX3_holds 0 = .ok (.iload_n 1, 1) ∧ decode cX3_holds 1 = .ok (.ifCond .lt 15, 3) ∧ decode cX3_holds 4 = .ok (.iload_n 1, 1) ∧ decode cX3_holds 5 = .ok (.aload_n 0, 1) ∧ decode cX3_holds 6 = .ok (.getfield 35, 3) ∧ decode cX3_holds 9 = .ok (.if_icmp .ge 7, 3) ∧ decode cX3_holds 12 = .ok (.iconst 1, 1) ∧ decode cX3_holds 13 = .ok (.goto 4, 3) ∧ decode cX3_holds 16 = .ok (.iconst 0, 1) ∧ decode cX3_holds 17 = .ok (.ireturn, 1) := by decide +kernel
theorem dX3_holds_0 : Dc cX3_holds 0 (.iload_n 1) 1 1 := ⟨DX3_holds_c0.1, rfl⟩
theorem dX3_holds_1 : Db cX3_holds 1 (fun o => .ifCond .lt o) 4 16 := ⟨15, DX3_holds_c0.2.1, rfl, rfl⟩
theorem dX3_holds_4 : Dc cX3_holds 4 (.iload_n 1) 1 5 := ⟨DX3_holds_c0.2.2.1, rfl⟩
theorem dX3_holds_5 : Dc cX3_holds 5 (.aload_n 0) 1 6 := ⟨DX3_holds_c0.2.2.2.1, rfl⟩
theorem dX3_holds_6 : Dc cX3_holds 6 (.getfield 35) 3 9 := ⟨DX3_holds_c0.2.2.2.2.1, rfl⟩
theorem dX3_holds_9 : Db cX3_holds 9 (fun o => .if_icmp .ge o) 12 16 := ⟨7, DX3_holds_c0.2.2.2.2.2.1, rfl, rfl⟩
theorem dX3_holds_12 : Dc cX3_holds 12 (.iconst 1) 1 13 := ⟨DX3_holds_c0.2.2.2.2.2.2.1, rfl⟩
theorem dX3_holds_13 : Db cX3_holds 13 .goto 16 17 := ⟨4, DX3_holds_c0.2.2.2.2.2.2.2.1, rfl, rfl⟩
theorem dX3_holds_16 : Dc cX3_holds 16 (.iconst 0) 1 17 := ⟨DX3_holds_c0.2.2.2.2.2.2.2.2.1, rfl⟩
theorem dX3_holds_17 : Dc cX3_holds 17 (.ireturn) 1 18 := ⟨DX3_holds_c0.2.2.2.2.2.2.2.2.2, rfl⟩
theorem DX3_isFull_c0 : decode cX3_isFull 0 = .ok (.aload_n 0, 1) ∧ decode cX3_isFull 1 = .ok (.getfield 35, 3) ∧ decode cX3_isFull 4 = .ok (.aload_n 0, 1) ∧ decode cX3_isFull 5 = .ok (.getfield 29, 3) ∧ decode cX3_isFull 8 = .ok (.arraylength, 1) ∧ decode cX3_isFull 9 = .ok (.if_icmp .lt 7, 3) ∧ decode cX3_isFull 12 = .ok (.iconst 1, 1) ∧ decode cX3_isFull 13 = .ok (.goto 4, 3) ∧ decode cX3_isFull 16 = .ok (.iconst 0, 1) ∧ decode cX3_isFull 17 = .ok (.ireturn, 1) := by decide +kernel
theorem dX3_isFull_0 : Dc cX3_isFull 0 (.aload_n 0) 1 1 := ⟨DX3_isFull_c0.1, rfl⟩
theorem dX3_isFull_1 : Dc cX3_isFull 1 (.getfield 35) 3 4 := ⟨DX3_isFull_c0.2.1, rfl⟩
theorem dX3_isFull_4 : Dc cX3_isFull 4 (.aload_n 0) 1 5 := ⟨DX3_isFull_c0.2.2.1, rfl⟩
theorem dX3_isFull_5 : Dc cX3_isFull 5 (.getfield 29) 3 8 := ⟨DX3_isFull_c0.2.2.2.1, rfl⟩
theorem dX3_isFull_8 : Dc cX3_isFull 8 (.arraylength) 1 9 := ⟨DX3_isFull_c0.2.2.2.2.1, rfl⟩
theorem dX3_isFull_9 : Db cX3_isFull 9 (fun o => .if_icmp .lt o) 12 16 := ⟨7, DX3_isFull_c0.2.2.2.2.2.1, rfl, rfl⟩
theorem dX3_isFull_12 : Dc cX3_isFull 12 (.iconst 1) 1 13 := ⟨DX3_isFull_c0.2.2.2.2.2.2.1, rfl⟩
theorem dX3_isFull_13 : Db cX3_isFull 13 .goto 16 17 := ⟨4, DX3_isFull_c0.2.2.2.2.2.2.2.1, rfl, rfl⟩
theorem dX3_isFull_16 : Dc cX3_isFull 16 (.iconst 0) 1 17 := ⟨DX3_isFull_c0.2.2.2.2.2.2.2.2.1, rfl⟩
theorem dX3_isFull_17 : Dc cX3_isFull 17 (.ireturn) 1 18 := ⟨DX3_isFull_c0.2.2.2.2.2.2.2.2.2, rfl⟩
theorem DX3_hasStep_c0 : decode cX3_hasStep 0 = .ok (.iload_n 2, 1) ∧ decode cX3_hasStep 1 = .ok (.ifCond .lt 16, 3) ∧ decode cX3_hasStep 4 = .ok (.iload_n 2, 1) ∧ decode cX3_hasStep 5 = .ok (.aload_n 0, 1) ∧ decode cX3_hasStep 6 = .ok (.iload_n 1, 1) ∧ decode cX3_hasStep 7 = .ok (.invokevirtual 38, 3) ∧ decode cX3_hasStep 10 = .ok (.if_icmp .ge 7, 3) ∧ decode cX3_hasStep 13 = .ok (.iconst 1, 1) ∧ decode cX3_hasStep 14 = .ok (.goto 4, 3) ∧ decode cX3_hasStep 17 = .ok (.iconst 0, 1) ∧ decode cX3_hasStep 18 = .ok (.ireturn, 1) := by decide +kernel
theorem dX3_hasStep_0 : Dc cX3_hasStep 0 (.iload_n 2) 1 1 := ⟨DX3_hasStep_c0.1, rfl⟩
theorem dX3_hasStep_1 : Db cX3_hasStep 1 (fun o => .ifCond .lt o) 4 17 := ⟨16, DX3_hasStep_c0.2.1, rfl, rfl⟩
theorem dX3_hasStep_4 : Dc cX3_hasStep 4 (.iload_n 2) 1 5 := ⟨DX3_hasStep_c0.2.2.1, rfl⟩
theorem dX3_hasStep_5 : Dc cX3_hasStep 5 (.aload_n 0) 1 6 := ⟨DX3_hasStep_c0.2.2.2.1, rfl⟩
theorem dX3_hasStep_6 : Dc cX3_hasStep 6 (.iload_n 1) 1 7 := ⟨DX3_hasStep_c0.2.2.2.2.1, rfl⟩
theorem dX3_hasStep_7 : Dc cX3_hasStep 7 (.invokevirtual 38) 3 10 := ⟨DX3_hasStep_c0.2.2.2.2.2.1, rfl⟩
theorem dX3_hasStep_10 : Db cX3_hasStep 10 (fun o => .if_icmp .ge o) 13 17 := ⟨7, DX3_hasStep_c0.2.2.2.2.2.2.1, rfl, rfl⟩
theorem dX3_hasStep_13 : Dc cX3_hasStep 13 (.iconst 1) 1 14 := ⟨DX3_hasStep_c0.2.2.2.2.2.2.2.1, rfl⟩
theorem dX3_hasStep_14 : Db cX3_hasStep 14 .goto 17 18 := ⟨4, DX3_hasStep_c0.2.2.2.2.2.2.2.2.1, rfl, rfl⟩
theorem dX3_hasStep_17 : Dc cX3_hasStep 17 (.iconst 0) 1 18 := ⟨DX3_hasStep_c0.2.2.2.2.2.2.2.2.2.1, rfl⟩
theorem dX3_hasStep_18 : Dc cX3_hasStep 18 (.ireturn) 1 19 := ⟨DX3_hasStep_c0.2.2.2.2.2.2.2.2.2.2, rfl⟩
theorem DX3_sizeOf_c0 : decode cX3_sizeOf 0 = .ok (.iload_n 1, 1) ∧ decode cX3_sizeOf 1 = .ok (.ifCond .lt 21, 3) ∧ decode cX3_sizeOf 4 = .ok (.iload_n 1, 1) ∧ decode cX3_sizeOf 5 = .ok (.aload_n 0, 1) ∧ decode cX3_sizeOf 6 = .ok (.getfield 29, 3) ∧ decode cX3_sizeOf 9 = .ok (.arraylength, 1) ∧ decode cX3_sizeOf 10 = .ok (.if_icmp .ge 12, 3) ∧ decode cX3_sizeOf 13 = .ok (.aload_n 0, 1) ∧ decode cX3_sizeOf 14 = .ok (.getfield 29, 3) ∧ decode cX3_sizeOf 17 = .ok (.iload_n 1, 1) ∧ decode cX3_sizeOf 18 = .ok (.iaload, 1) ∧ decode cX3_sizeOf 19 = .ok (.goto 4, 3) ∧ decode cX3_sizeOf 22 = .ok (.iconst 0, 1) ∧ decode cX3_sizeOf 23 = .ok (.ireturn, 1) := by decide +kernel
theorem dX3_sizeOf_0 : Dc cX3_sizeOf 0 (.iload_n 1) 1 1 := ⟨DX3_sizeOf_c0.1, rfl⟩
theorem dX3_sizeOf_1 : Db cX3_sizeOf 1 (fun o => .ifCond .lt o) 4 22 := ⟨21, DX3_sizeOf_c0.2.1, rfl, rfl⟩
theorem dX3_sizeOf_4 : Dc cX3_sizeOf 4 (.iload_n 1) 1 5 := ⟨DX3_sizeOf_c0.2.2.1, rfl⟩
theorem dX3_sizeOf_5 : Dc cX3_sizeOf 5 (.aload_n 0) 1 6 := ⟨DX3_sizeOf_c0.2.2.2.1, rfl⟩
theorem dX3_sizeOf_6 : Dc cX3_sizeOf 6 (.getfield 29) 3 9 := ⟨DX3_sizeOf_c0.2.2.2.2.1, rfl⟩
theorem dX3_sizeOf_9 : Dc cX3_sizeOf 9 (.arraylength) 1 10 := ⟨DX3_sizeOf_c0.2.2.2.2.2.1, rfl⟩
theorem dX3_sizeOf_10 : Db cX3_sizeOf 10 (fun o => .if_icmp .ge o) 13 22 := ⟨12, DX3_sizeOf_c0.2.2.2.2.2.2.1, rfl, rfl⟩
theorem dX3_sizeOf_13 : Dc cX3_sizeOf 13 (.aload_n 0) 1 14 := ⟨DX3_sizeOf_c0.2.2.2.2.2.2.2.1, rfl⟩
theorem dX3_sizeOf_14 : Dc cX3_sizeOf 14 (.getfield 29) 3 17 := ⟨DX3_sizeOf_c0.2.2.2.2.2.2.2.2.1, rfl⟩
theorem dX3_sizeOf_17 : Dc cX3_sizeOf 17 (.iload_n 1) 1 18 := ⟨DX3_sizeOf_c0.2.2.2.2.2.2.2.2.2.1, rfl⟩
theorem dX3_sizeOf_18 : Dc cX3_sizeOf 18 (.iaload) 1 19 := ⟨DX3_sizeOf_c0.2.2.2.2.2.2.2.2.2.2.1, rfl⟩
theorem dX3_sizeOf_19 : Db cX3_sizeOf 19 .goto 22 23 := ⟨4, DX3_sizeOf_c0.2.2.2.2.2.2.2.2.2.2.2.1, rfl, rfl⟩
theorem dX3_sizeOf_22 : Dc cX3_sizeOf 22 (.iconst 0) 1 23 := ⟨DX3_sizeOf_c0.2.2.2.2.2.2.2.2.2.2.2.2.1, rfl⟩
theorem dX3_sizeOf_23 : Dc cX3_sizeOf 23 (.ireturn) 1 24 := ⟨DX3_sizeOf_c0.2.2.2.2.2.2.2.2.2.2.2.2.2, rfl⟩
theorem DX3_turnsOf_c0 : decode cX3_turnsOf 0 = .ok (.iload_n 1, 1) ∧ decode cX3_turnsOf 1 = .ok (.ifCond .lt 21, 3) ∧ decode cX3_turnsOf 4 = .ok (.iload_n 1, 1) ∧ decode cX3_turnsOf 5 = .ok (.aload_n 0, 1) ∧ decode cX3_turnsOf 6 = .ok (.getfield 32, 3) ∧ decode cX3_turnsOf 9 = .ok (.arraylength, 1) ∧ decode cX3_turnsOf 10 = .ok (.if_icmp .ge 12, 3) ∧ decode cX3_turnsOf 13 = .ok (.aload_n 0, 1) ∧ decode cX3_turnsOf 14 = .ok (.getfield 32, 3) ∧ decode cX3_turnsOf 17 = .ok (.iload_n 1, 1) ∧ decode cX3_turnsOf 18 = .ok (.iaload, 1) ∧ decode cX3_turnsOf 19 = .ok (.goto 4, 3) ∧ decode cX3_turnsOf 22 = .ok (.iconst 0, 1) ∧ decode cX3_turnsOf 23 = .ok (.ireturn, 1) := by decide +kernel
theorem dX3_turnsOf_0 : Dc cX3_turnsOf 0 (.iload_n 1) 1 1 := ⟨DX3_turnsOf_c0.1, rfl⟩
theorem dX3_turnsOf_1 : Db cX3_turnsOf 1 (fun o => .ifCond .lt o) 4 22 := ⟨21, DX3_turnsOf_c0.2.1, rfl, rfl⟩
theorem dX3_turnsOf_4 : Dc cX3_turnsOf 4 (.iload_n 1) 1 5 := ⟨DX3_turnsOf_c0.2.2.1, rfl⟩
theorem dX3_turnsOf_5 : Dc cX3_turnsOf 5 (.aload_n 0) 1 6 := ⟨DX3_turnsOf_c0.2.2.2.1, rfl⟩
theorem dX3_turnsOf_6 : Dc cX3_turnsOf 6 (.getfield 32) 3 9 := ⟨DX3_turnsOf_c0.2.2.2.2.1, rfl⟩
theorem dX3_turnsOf_9 : Dc cX3_turnsOf 9 (.arraylength) 1 10 := ⟨DX3_turnsOf_c0.2.2.2.2.2.1, rfl⟩
theorem dX3_turnsOf_10 : Db cX3_turnsOf 10 (fun o => .if_icmp .ge o) 13 22 := ⟨12, DX3_turnsOf_c0.2.2.2.2.2.2.1, rfl, rfl⟩
theorem dX3_turnsOf_13 : Dc cX3_turnsOf 13 (.aload_n 0) 1 14 := ⟨DX3_turnsOf_c0.2.2.2.2.2.2.2.1, rfl⟩
theorem dX3_turnsOf_14 : Dc cX3_turnsOf 14 (.getfield 32) 3 17 := ⟨DX3_turnsOf_c0.2.2.2.2.2.2.2.2.1, rfl⟩
theorem dX3_turnsOf_17 : Dc cX3_turnsOf 17 (.iload_n 1) 1 18 := ⟨DX3_turnsOf_c0.2.2.2.2.2.2.2.2.2.1, rfl⟩
theorem dX3_turnsOf_18 : Dc cX3_turnsOf 18 (.iaload) 1 19 := ⟨DX3_turnsOf_c0.2.2.2.2.2.2.2.2.2.2.1, rfl⟩
theorem dX3_turnsOf_19 : Db cX3_turnsOf 19 .goto 22 23 := ⟨4, DX3_turnsOf_c0.2.2.2.2.2.2.2.2.2.2.2.1, rfl, rfl⟩
theorem dX3_turnsOf_22 : Dc cX3_turnsOf 22 (.iconst 0) 1 23 := ⟨DX3_turnsOf_c0.2.2.2.2.2.2.2.2.2.2.2.2.1, rfl⟩
theorem dX3_turnsOf_23 : Dc cX3_turnsOf 23 (.ireturn) 1 24 := ⟨DX3_turnsOf_c0.2.2.2.2.2.2.2.2.2.2.2.2.2, rfl⟩
theorem DX3_verbAt_c0 : decode cX3_verbAt 0 = .ok (.aload_n 0, 1) ∧ decode cX3_verbAt 1 = .ok (.aload_n 0, 1) ∧ decode cX3_verbAt 2 = .ok (.getfield 19, 3) ∧ decode cX3_verbAt 5 = .ok (.iload_n 1, 1) ∧ decode cX3_verbAt 6 = .ok (.iload_n 2, 1) ∧ decode cX3_verbAt 7 = .ok (.invokevirtual 42, 3) ∧ decode cX3_verbAt 10 = .ok (.ireturn, 1) := by decide +kernel
theorem dX3_verbAt_0 : Dc cX3_verbAt 0 (.aload_n 0) 1 1 := ⟨DX3_verbAt_c0.1, rfl⟩
theorem dX3_verbAt_1 : Dc cX3_verbAt 1 (.aload_n 0) 1 2 := ⟨DX3_verbAt_c0.2.1, rfl⟩
theorem dX3_verbAt_2 : Dc cX3_verbAt 2 (.getfield 19) 3 5 := ⟨DX3_verbAt_c0.2.2.1, rfl⟩
theorem dX3_verbAt_5 : Dc cX3_verbAt 5 (.iload_n 1) 1 6 := ⟨DX3_verbAt_c0.2.2.2.1, rfl⟩
theorem dX3_verbAt_6 : Dc cX3_verbAt 6 (.iload_n 2) 1 7 := ⟨DX3_verbAt_c0.2.2.2.2.1, rfl⟩
theorem dX3_verbAt_7 : Dc cX3_verbAt 7 (.invokevirtual 42) 3 10 := ⟨DX3_verbAt_c0.2.2.2.2.2.1, rfl⟩
theorem dX3_verbAt_10 : Dc cX3_verbAt 10 (.ireturn) 1 11 := ⟨DX3_verbAt_c0.2.2.2.2.2.2, rfl⟩
theorem DX3_numberAt_c0 : decode cX3_numberAt 0 = .ok (.aload_n 0, 1) ∧ decode cX3_numberAt 1 = .ok (.aload_n 0, 1) ∧ decode cX3_numberAt 2 = .ok (.getfield 23, 3) ∧ decode cX3_numberAt 5 = .ok (.iload_n 1, 1) ∧ decode cX3_numberAt 6 = .ok (.iload_n 2, 1) ∧ decode cX3_numberAt 7 = .ok (.invokevirtual 42, 3) ∧ decode cX3_numberAt 10 = .ok (.ireturn, 1) := by decide +kernel
theorem dX3_numberAt_0 : Dc cX3_numberAt 0 (.aload_n 0) 1 1 := ⟨DX3_numberAt_c0.1, rfl⟩
theorem dX3_numberAt_1 : Dc cX3_numberAt 1 (.aload_n 0) 1 2 := ⟨DX3_numberAt_c0.2.1, rfl⟩
theorem dX3_numberAt_2 : Dc cX3_numberAt 2 (.getfield 23) 3 5 := ⟨DX3_numberAt_c0.2.2.1, rfl⟩
theorem dX3_numberAt_5 : Dc cX3_numberAt 5 (.iload_n 1) 1 6 := ⟨DX3_numberAt_c0.2.2.2.1, rfl⟩
theorem dX3_numberAt_6 : Dc cX3_numberAt 6 (.iload_n 2) 1 7 := ⟨DX3_numberAt_c0.2.2.2.2.1, rfl⟩
theorem dX3_numberAt_7 : Dc cX3_numberAt 7 (.invokevirtual 42) 3 10 := ⟨DX3_numberAt_c0.2.2.2.2.2.1, rfl⟩
theorem dX3_numberAt_10 : Dc cX3_numberAt 10 (.ireturn) 1 11 := ⟨DX3_numberAt_c0.2.2.2.2.2.2, rfl⟩
theorem DX3_strideAt_c0 : decode cX3_strideAt 0 = .ok (.aload_n 0, 1) ∧ decode cX3_strideAt 1 = .ok (.aload_n 0, 1) ∧ decode cX3_strideAt 2 = .ok (.getfield 26, 3) ∧ decode cX3_strideAt 5 = .ok (.iload_n 1, 1) ∧ decode cX3_strideAt 6 = .ok (.iload_n 2, 1) ∧ decode cX3_strideAt 7 = .ok (.invokevirtual 42, 3) ∧ decode cX3_strideAt 10 = .ok (.ireturn, 1) := by decide +kernel
theorem dX3_strideAt_0 : Dc cX3_strideAt 0 (.aload_n 0) 1 1 := ⟨DX3_strideAt_c0.1, rfl⟩
theorem dX3_strideAt_1 : Dc cX3_strideAt 1 (.aload_n 0) 1 2 := ⟨DX3_strideAt_c0.2.1, rfl⟩
theorem dX3_strideAt_2 : Dc cX3_strideAt 2 (.getfield 26) 3 5 := ⟨DX3_strideAt_c0.2.2.1, rfl⟩
theorem dX3_strideAt_5 : Dc cX3_strideAt 5 (.iload_n 1) 1 6 := ⟨DX3_strideAt_c0.2.2.2.1, rfl⟩
theorem dX3_strideAt_6 : Dc cX3_strideAt 6 (.iload_n 2) 1 7 := ⟨DX3_strideAt_c0.2.2.2.2.1, rfl⟩
theorem dX3_strideAt_7 : Dc cX3_strideAt 7 (.invokevirtual 42) 3 10 := ⟨DX3_strideAt_c0.2.2.2.2.2.1, rfl⟩
theorem dX3_strideAt_10 : Dc cX3_strideAt 10 (.ireturn) 1 11 := ⟨DX3_strideAt_c0.2.2.2.2.2.2, rfl⟩
theorem DX3_numberInTurn_c0 : decode cX3_numberInTurn 0 = .ok (.aload_n 0, 1) ∧ decode cX3_numberInTurn 1 = .ok (.iload_n 1, 1) ∧ decode cX3_numberInTurn 2 = .ok (.iload_n 2, 1) ∧ decode cX3_numberInTurn 3 = .ok (.invokevirtual 46, 3) ∧ decode cX3_numberInTurn 6 = .ok (.iload_n 3, 1) ∧ decode cX3_numberInTurn 7 = .ok (.aload_n 0, 1) ∧ decode cX3_numberInTurn 8 = .ok (.iload_n 1, 1) ∧ decode cX3_numberInTurn 9 = .ok (.iload_n 2, 1) ∧ decode cX3_numberInTurn 10 = .ok (.invokevirtual 49, 3) ∧ decode cX3_numberInTurn 13 = .ok (.imul, 1) ∧ decode cX3_numberInTurn 14 = .ok (.iadd, 1) ∧ decode cX3_numberInTurn 15 = .ok (.ireturn, 1) := by decide +kernel
theorem dX3_numberInTurn_0 : Dc cX3_numberInTurn 0 (.aload_n 0) 1 1 := ⟨DX3_numberInTurn_c0.1, rfl⟩
theorem dX3_numberInTurn_1 : Dc cX3_numberInTurn 1 (.iload_n 1) 1 2 := ⟨DX3_numberInTurn_c0.2.1, rfl⟩
theorem dX3_numberInTurn_2 : Dc cX3_numberInTurn 2 (.iload_n 2) 1 3 := ⟨DX3_numberInTurn_c0.2.2.1, rfl⟩
theorem dX3_numberInTurn_3 : Dc cX3_numberInTurn 3 (.invokevirtual 46) 3 6 := ⟨DX3_numberInTurn_c0.2.2.2.1, rfl⟩
theorem dX3_numberInTurn_6 : Dc cX3_numberInTurn 6 (.iload_n 3) 1 7 := ⟨DX3_numberInTurn_c0.2.2.2.2.1, rfl⟩
theorem dX3_numberInTurn_7 : Dc cX3_numberInTurn 7 (.aload_n 0) 1 8 := ⟨DX3_numberInTurn_c0.2.2.2.2.2.1, rfl⟩
theorem dX3_numberInTurn_8 : Dc cX3_numberInTurn 8 (.iload_n 1) 1 9 := ⟨DX3_numberInTurn_c0.2.2.2.2.2.2.1, rfl⟩
theorem dX3_numberInTurn_9 : Dc cX3_numberInTurn 9 (.iload_n 2) 1 10 := ⟨DX3_numberInTurn_c0.2.2.2.2.2.2.2.1, rfl⟩
theorem dX3_numberInTurn_10 : Dc cX3_numberInTurn 10 (.invokevirtual 49) 3 13 := ⟨DX3_numberInTurn_c0.2.2.2.2.2.2.2.2.1, rfl⟩
theorem dX3_numberInTurn_13 : Dc cX3_numberInTurn 13 (.imul) 1 14 := ⟨DX3_numberInTurn_c0.2.2.2.2.2.2.2.2.2.1, rfl⟩
theorem dX3_numberInTurn_14 : Dc cX3_numberInTurn 14 (.iadd) 1 15 := ⟨DX3_numberInTurn_c0.2.2.2.2.2.2.2.2.2.2.1, rfl⟩
theorem dX3_numberInTurn_15 : Dc cX3_numberInTurn 15 (.ireturn) 1 16 := ⟨DX3_numberInTurn_c0.2.2.2.2.2.2.2.2.2.2.2, rfl⟩
theorem DX3_haveSameVerbs_c0 : decode cX3_haveSameVerbs 0 = .ok (.aload_n 0, 1) ∧ decode cX3_haveSameVerbs 1 = .ok (.iload_n 1, 1) ∧ decode cX3_haveSameVerbs 2 = .ok (.invokevirtual 38, 3) ∧ decode cX3_haveSameVerbs 5 = .ok (.istore_n 3, 1) ∧ decode cX3_haveSameVerbs 6 = .ok (.iload_n 3, 1) ∧ decode cX3_haveSameVerbs 7 = .ok (.aload_n 0, 1) ∧ decode cX3_haveSameVerbs 8 = .ok (.iload_n 2, 1) ∧ decode cX3_haveSameVerbs 9 = .ok (.invokevirtual 38, 3) ∧ decode cX3_haveSameVerbs 12 = .ok (.if_icmp .eq 5, 3) ∧ decode cX3_haveSameVerbs 15 = .ok (.iconst 0, 1) ∧ decode cX3_haveSameVerbs 16 = .ok (.ireturn, 1) ∧ decode cX3_haveSameVerbs 17 = .ok (.iconst 0, 1) ∧ decode cX3_haveSameVerbs 18 = .ok (.istore 4, 2) ∧ decode cX3_haveSameVerbs 20 = .ok (.iload 4, 2) ∧ decode cX3_haveSameVerbs 22 = .ok (.iload_n 3, 1) ∧ decode cX3_haveSameVerbs 23 = .ok (.if_icmp .ge 28, 3) := by decide +kernel
theorem dX3_haveSameVerbs_0 : Dc cX3_haveSameVerbs 0 (.aload_n 0) 1 1 := ⟨DX3_haveSameVerbs_c0.1, rfl⟩
theorem dX3_haveSameVerbs_1 : Dc cX3_haveSameVerbs 1 (.iload_n 1) 1 2 := ⟨DX3_haveSameVerbs_c0.2.1, rfl⟩
theorem dX3_haveSameVerbs_2 : Dc cX3_haveSameVerbs 2 (.invokevirtual 38) 3 5 := ⟨DX3_haveSameVerbs_c0.2.2.1, rfl⟩
theorem dX3_haveSameVerbs_5 : Dc cX3_haveSameVerbs 5 (.istore_n 3) 1 6 := ⟨DX3_haveSameVerbs_c0.2.2.2.1, rfl⟩
theorem dX3_haveSameVerbs_6 : Dc cX3_haveSameVerbs 6 (.iload_n 3) 1 7 := ⟨DX3_haveSameVerbs_c0.2.2.2.2.1, rfl⟩
theorem dX3_haveSameVerbs_7 : Dc cX3_haveSameVerbs 7 (.aload_n 0) 1 8 := ⟨DX3_haveSameVerbs_c0.2.2.2.2.2.1, rfl⟩
theorem dX3_haveSameVerbs_8 : Dc cX3_haveSameVerbs 8 (.iload_n 2) 1 9 := ⟨DX3_haveSameVerbs_c0.2.2.2.2.2.2.1, rfl⟩
theorem dX3_haveSameVerbs_9 : Dc cX3_haveSameVerbs 9 (.invokevirtual 38) 3 12 := ⟨DX3_haveSameVerbs_c0.2.2.2.2.2.2.2.1, rfl⟩
theorem dX3_haveSameVerbs_12 : Db cX3_haveSameVerbs 12 (fun o => .if_icmp .eq o) 15 17 := ⟨5, DX3_haveSameVerbs_c0.2.2.2.2.2.2.2.2.1, rfl, rfl⟩
theorem dX3_haveSameVerbs_15 : Dc cX3_haveSameVerbs 15 (.iconst 0) 1 16 := ⟨DX3_haveSameVerbs_c0.2.2.2.2.2.2.2.2.2.1, rfl⟩
theorem dX3_haveSameVerbs_16 : Dc cX3_haveSameVerbs 16 (.ireturn) 1 17 := ⟨DX3_haveSameVerbs_c0.2.2.2.2.2.2.2.2.2.2.1, rfl⟩
theorem dX3_haveSameVerbs_17 : Dc cX3_haveSameVerbs 17 (.iconst 0) 1 18 := ⟨DX3_haveSameVerbs_c0.2.2.2.2.2.2.2.2.2.2.2.1, rfl⟩
theorem dX3_haveSameVerbs_18 : Dc cX3_haveSameVerbs 18 (.istore 4) 2 20 := ⟨DX3_haveSameVerbs_c0.2.2.2.2.2.2.2.2.2.2.2.2.1, rfl⟩
theorem dX3_haveSameVerbs_20 : Dc cX3_haveSameVerbs 20 (.iload 4) 2 22 := ⟨DX3_haveSameVerbs_c0.2.2.2.2.2.2.2.2.2.2.2.2.2.1, rfl⟩
theorem dX3_haveSameVerbs_22 : Dc cX3_haveSameVerbs 22 (.iload_n 3) 1 23 := ⟨DX3_haveSameVerbs_c0.2.2.2.2.2.2.2.2.2.2.2.2.2.2.1, rfl⟩
theorem dX3_haveSameVerbs_23 : Db cX3_haveSameVerbs 23 (fun o => .if_icmp .ge o) 26 51 := ⟨28, DX3_haveSameVerbs_c0.2.2.2.2.2.2.2.2.2.2.2.2.2.2.2, rfl, rfl⟩
theorem DX3_haveSameVerbs_c1 : decode cX3_haveSameVerbs 26 = .ok (.aload_n 0, 1) ∧ decode cX3_haveSameVerbs 27 = .ok (.iload_n 1, 1) ∧ decode cX3_haveSameVerbs 28 = .ok (.iload 4, 2) ∧ decode cX3_haveSameVerbs 30 = .ok (.invokevirtual 52, 3) ∧ decode cX3_haveSameVerbs 33 = .ok (.aload_n 0, 1) ∧ decode cX3_haveSameVerbs 34 = .ok (.iload_n 2, 1) ∧ decode cX3_haveSameVerbs 35 = .ok (.iload 4, 2) ∧ decode cX3_haveSameVerbs 37 = .ok (.invokevirtual 52, 3) ∧ decode cX3_haveSameVerbs 40 = .ok (.if_icmp .eq 5, 3) ∧ decode cX3_haveSameVerbs 43 = .ok (.iconst 0, 1) ∧ decode cX3_haveSameVerbs 44 = .ok (.ireturn, 1) ∧ decode cX3_haveSameVerbs 45 = .ok (.iinc 4 1, 3) ∧ decode cX3_haveSameVerbs 48 = .ok (.goto (-28), 3) ∧ decode cX3_haveSameVerbs 51 = .ok (.iconst 1, 1) ∧ decode cX3_haveSameVerbs 52 = .ok (.ireturn, 1) := by decide +kernel
theorem dX3_haveSameVerbs_26 : Dc cX3_haveSameVerbs 26 (.aload_n 0) 1 27 := ⟨DX3_haveSameVerbs_c1.1, rfl⟩
theorem dX3_haveSameVerbs_27 : Dc cX3_haveSameVerbs 27 (.iload_n 1) 1 28 := ⟨DX3_haveSameVerbs_c1.2.1, rfl⟩
theorem dX3_haveSameVerbs_28 : Dc cX3_haveSameVerbs 28 (.iload 4) 2 30 := ⟨DX3_haveSameVerbs_c1.2.2.1, rfl⟩
theorem dX3_haveSameVerbs_30 : Dc cX3_haveSameVerbs 30 (.invokevirtual 52) 3 33 := ⟨DX3_haveSameVerbs_c1.2.2.2.1, rfl⟩
theorem dX3_haveSameVerbs_33 : Dc cX3_haveSameVerbs 33 (.aload_n 0) 1 34 := ⟨DX3_haveSameVerbs_c1.2.2.2.2.1, rfl⟩
theorem dX3_haveSameVerbs_34 : Dc cX3_haveSameVerbs 34 (.iload_n 2) 1 35 := ⟨DX3_haveSameVerbs_c1.2.2.2.2.2.1, rfl⟩
theorem dX3_haveSameVerbs_35 : Dc cX3_haveSameVerbs 35 (.iload 4) 2 37 := ⟨DX3_haveSameVerbs_c1.2.2.2.2.2.2.1, rfl⟩
theorem dX3_haveSameVerbs_37 : Dc cX3_haveSameVerbs 37 (.invokevirtual 52) 3 40 := ⟨DX3_haveSameVerbs_c1.2.2.2.2.2.2.2.1, rfl⟩
theorem dX3_haveSameVerbs_40 : Db cX3_haveSameVerbs 40 (fun o => .if_icmp .eq o) 43 45 := ⟨5, DX3_haveSameVerbs_c1.2.2.2.2.2.2.2.2.1, rfl, rfl⟩
theorem dX3_haveSameVerbs_43 : Dc cX3_haveSameVerbs 43 (.iconst 0) 1 44 := ⟨DX3_haveSameVerbs_c1.2.2.2.2.2.2.2.2.2.1, rfl⟩
theorem dX3_haveSameVerbs_44 : Dc cX3_haveSameVerbs 44 (.ireturn) 1 45 := ⟨DX3_haveSameVerbs_c1.2.2.2.2.2.2.2.2.2.2.1, rfl⟩
theorem dX3_haveSameVerbs_45 : Dc cX3_haveSameVerbs 45 (.iinc 4 1) 3 48 := ⟨DX3_haveSameVerbs_c1.2.2.2.2.2.2.2.2.2.2.2.1, rfl⟩
theorem dX3_haveSameVerbs_48 : Db cX3_haveSameVerbs 48 .goto 51 20 := ⟨-28, DX3_haveSameVerbs_c1.2.2.2.2.2.2.2.2.2.2.2.2.1, rfl, rfl⟩
theorem dX3_haveSameVerbs_51 : Dc cX3_haveSameVerbs 51 (.iconst 1) 1 52 := ⟨DX3_haveSameVerbs_c1.2.2.2.2.2.2.2.2.2.2.2.2.2.1, rfl⟩
theorem dX3_haveSameVerbs_52 : Dc cX3_haveSameVerbs 52 (.ireturn) 1 53 := ⟨DX3_haveSameVerbs_c1.2.2.2.2.2.2.2.2.2.2.2.2.2.2, rfl⟩
theorem DX3_emptyNext_c0 : decode cX3_emptyNext 0 = .ok (.aload_n 0, 1) ∧ decode cX3_emptyNext 1 = .ok (.aload_n 0, 1) ∧ decode cX3_emptyNext 2 = .ok (.getfield 35, 3) ∧ decode cX3_emptyNext 5 = .ok (.invokevirtual 55, 3) ∧ decode cX3_emptyNext 8 = .ok (.ifCond .eq 13, 3) ∧ decode cX3_emptyNext 11 = .ok (.aload_n 0, 1) ∧ decode cX3_emptyNext 12 = .ok (.getfield 29, 3) ∧ decode cX3_emptyNext 15 = .ok (.aload_n 0, 1) ∧ decode cX3_emptyNext 16 = .ok (.getfield 35, 3) ∧ decode cX3_emptyNext 19 = .ok (.iconst 0, 1) ∧ decode cX3_emptyNext 20 = .ok (.iastore, 1) ∧ decode cX3_emptyNext 21 = .ok (.return_, 1) := by decide +kernel
theorem dX3_emptyNext_0 : Dc cX3_emptyNext 0 (.aload_n 0) 1 1 := ⟨DX3_emptyNext_c0.1, rfl⟩
theorem dX3_emptyNext_1 : Dc cX3_emptyNext 1 (.aload_n 0) 1 2 := ⟨DX3_emptyNext_c0.2.1, rfl⟩
theorem dX3_emptyNext_2 : Dc cX3_emptyNext 2 (.getfield 35) 3 5 := ⟨DX3_emptyNext_c0.2.2.1, rfl⟩
theorem dX3_emptyNext_5 : Dc cX3_emptyNext 5 (.invokevirtual 55) 3 8 := ⟨DX3_emptyNext_c0.2.2.2.1, rfl⟩
theorem dX3_emptyNext_8 : Db cX3_emptyNext 8 (fun o => .ifCond .eq o) 11 21 := ⟨13, DX3_emptyNext_c0.2.2.2.2.1, rfl, rfl⟩
theorem dX3_emptyNext_11 : Dc cX3_emptyNext 11 (.aload_n 0) 1 12 := ⟨DX3_emptyNext_c0.2.2.2.2.2.1, rfl⟩
theorem dX3_emptyNext_12 : Dc cX3_emptyNext 12 (.getfield 29) 3 15 := ⟨DX3_emptyNext_c0.2.2.2.2.2.2.1, rfl⟩
theorem dX3_emptyNext_15 : Dc cX3_emptyNext 15 (.aload_n 0) 1 16 := ⟨DX3_emptyNext_c0.2.2.2.2.2.2.2.1, rfl⟩
theorem dX3_emptyNext_16 : Dc cX3_emptyNext 16 (.getfield 35) 3 19 := ⟨DX3_emptyNext_c0.2.2.2.2.2.2.2.2.1, rfl⟩
theorem dX3_emptyNext_19 : Dc cX3_emptyNext 19 (.iconst 0) 1 20 := ⟨DX3_emptyNext_c0.2.2.2.2.2.2.2.2.2.1, rfl⟩
theorem dX3_emptyNext_20 : Dc cX3_emptyNext 20 (.iastore) 1 21 := ⟨DX3_emptyNext_c0.2.2.2.2.2.2.2.2.2.2.1, rfl⟩
theorem dX3_emptyNext_21 : Dc cX3_emptyNext 21 (.return_) 1 22 := ⟨DX3_emptyNext_c0.2.2.2.2.2.2.2.2.2.2.2, rfl⟩
theorem DX3_keepNext_c0 : decode cX3_keepNext 0 = .ok (.aload_n 0, 1) ∧ decode cX3_keepNext 1 = .ok (.getfield 35, 3) ∧ decode cX3_keepNext 4 = .ok (.istore_n 2, 1) ∧ decode cX3_keepNext 5 = .ok (.aload_n 0, 1) ∧ decode cX3_keepNext 6 = .ok (.iload_n 2, 1) ∧ decode cX3_keepNext 7 = .ok (.iload_n 1, 1) ∧ decode cX3_keepNext 8 = .ok (.invokevirtual 59, 3) ∧ decode cX3_keepNext 11 = .ok (.aload_n 0, 1) ∧ decode cX3_keepNext 12 = .ok (.invokevirtual 63, 3) ∧ decode cX3_keepNext 15 = .ok (.ifCond .ne 13, 3) ∧ decode cX3_keepNext 18 = .ok (.aload_n 0, 1) ∧ decode cX3_keepNext 19 = .ok (.dup, 1) ∧ decode cX3_keepNext 20 = .ok (.getfield 35, 3) ∧ decode cX3_keepNext 23 = .ok (.iconst 1, 1) ∧ decode cX3_keepNext 24 = .ok (.iadd, 1) ∧ decode cX3_keepNext 25 = .ok (.putfield 35, 3) := by decide +kernel
theorem dX3_keepNext_0 : Dc cX3_keepNext 0 (.aload_n 0) 1 1 := ⟨DX3_keepNext_c0.1, rfl⟩
theorem dX3_keepNext_1 : Dc cX3_keepNext 1 (.getfield 35) 3 4 := ⟨DX3_keepNext_c0.2.1, rfl⟩
theorem dX3_keepNext_4 : Dc cX3_keepNext 4 (.istore_n 2) 1 5 := ⟨DX3_keepNext_c0.2.2.1, rfl⟩
theorem dX3_keepNext_5 : Dc cX3_keepNext 5 (.aload_n 0) 1 6 := ⟨DX3_keepNext_c0.2.2.2.1, rfl⟩
theorem dX3_keepNext_6 : Dc cX3_keepNext 6 (.iload_n 2) 1 7 := ⟨DX3_keepNext_c0.2.2.2.2.1, rfl⟩
theorem dX3_keepNext_7 : Dc cX3_keepNext 7 (.iload_n 1) 1 8 := ⟨DX3_keepNext_c0.2.2.2.2.2.1, rfl⟩
theorem dX3_keepNext_8 : Dc cX3_keepNext 8 (.invokevirtual 59) 3 11 := ⟨DX3_keepNext_c0.2.2.2.2.2.2.1, rfl⟩
theorem dX3_keepNext_11 : Dc cX3_keepNext 11 (.aload_n 0) 1 12 := ⟨DX3_keepNext_c0.2.2.2.2.2.2.2.1, rfl⟩
theorem dX3_keepNext_12 : Dc cX3_keepNext 12 (.invokevirtual 63) 3 15 := ⟨DX3_keepNext_c0.2.2.2.2.2.2.2.2.1, rfl⟩
theorem dX3_keepNext_15 : Db cX3_keepNext 15 (fun o => .ifCond .ne o) 18 28 := ⟨13, DX3_keepNext_c0.2.2.2.2.2.2.2.2.2.1, rfl, rfl⟩
theorem dX3_keepNext_18 : Dc cX3_keepNext 18 (.aload_n 0) 1 19 := ⟨DX3_keepNext_c0.2.2.2.2.2.2.2.2.2.2.1, rfl⟩
theorem dX3_keepNext_19 : Dc cX3_keepNext 19 (.dup) 1 20 := ⟨DX3_keepNext_c0.2.2.2.2.2.2.2.2.2.2.2.1, rfl⟩
theorem dX3_keepNext_20 : Dc cX3_keepNext 20 (.getfield 35) 3 23 := ⟨DX3_keepNext_c0.2.2.2.2.2.2.2.2.2.2.2.2.1, rfl⟩
theorem dX3_keepNext_23 : Dc cX3_keepNext 23 (.iconst 1) 1 24 := ⟨DX3_keepNext_c0.2.2.2.2.2.2.2.2.2.2.2.2.2.1, rfl⟩
theorem dX3_keepNext_24 : Dc cX3_keepNext 24 (.iadd) 1 25 := ⟨DX3_keepNext_c0.2.2.2.2.2.2.2.2.2.2.2.2.2.2.1, rfl⟩
theorem dX3_keepNext_25 : Dc cX3_keepNext 25 (.putfield 35) 3 28 := ⟨DX3_keepNext_c0.2.2.2.2.2.2.2.2.2.2.2.2.2.2.2, rfl⟩
theorem DX3_keepNext_c1 : decode cX3_keepNext 28 = .ok (.iload_n 2, 1) ∧ decode cX3_keepNext 29 = .ok (.ireturn, 1) := by decide +kernel
theorem dX3_keepNext_28 : Dc cX3_keepNext 28 (.iload_n 2) 1 29 := ⟨DX3_keepNext_c1.1, rfl⟩
theorem dX3_keepNext_29 : Dc cX3_keepNext 29 (.ireturn) 1 30 := ⟨DX3_keepNext_c1.2, rfl⟩
theorem DX3_giveTurns_c0 : decode cX3_giveTurns 0 = .ok (.iload_n 1, 1) ∧ decode cX3_giveTurns 1 = .ok (.ifCond .lt 19, 3) ∧ decode cX3_giveTurns 4 = .ok (.iload_n 1, 1) ∧ decode cX3_giveTurns 5 = .ok (.aload_n 0, 1) ∧ decode cX3_giveTurns 6 = .ok (.getfield 32, 3) ∧ decode cX3_giveTurns 9 = .ok (.arraylength, 1) ∧ decode cX3_giveTurns 10 = .ok (.if_icmp .ge 10, 3) ∧ decode cX3_giveTurns 13 = .ok (.aload_n 0, 1) ∧ decode cX3_giveTurns 14 = .ok (.getfield 32, 3) ∧ decode cX3_giveTurns 17 = .ok (.iload_n 1, 1) ∧ decode cX3_giveTurns 18 = .ok (.iload_n 2, 1) ∧ decode cX3_giveTurns 19 = .ok (.iastore, 1) ∧ decode cX3_giveTurns 20 = .ok (.return_, 1) := by decide +kernel
theorem dX3_giveTurns_0 : Dc cX3_giveTurns 0 (.iload_n 1) 1 1 := ⟨DX3_giveTurns_c0.1, rfl⟩
theorem dX3_giveTurns_1 : Db cX3_giveTurns 1 (fun o => .ifCond .lt o) 4 20 := ⟨19, DX3_giveTurns_c0.2.1, rfl, rfl⟩
theorem dX3_giveTurns_4 : Dc cX3_giveTurns 4 (.iload_n 1) 1 5 := ⟨DX3_giveTurns_c0.2.2.1, rfl⟩
theorem dX3_giveTurns_5 : Dc cX3_giveTurns 5 (.aload_n 0) 1 6 := ⟨DX3_giveTurns_c0.2.2.2.1, rfl⟩
theorem dX3_giveTurns_6 : Dc cX3_giveTurns 6 (.getfield 32) 3 9 := ⟨DX3_giveTurns_c0.2.2.2.2.1, rfl⟩
theorem dX3_giveTurns_9 : Dc cX3_giveTurns 9 (.arraylength) 1 10 := ⟨DX3_giveTurns_c0.2.2.2.2.2.1, rfl⟩
theorem dX3_giveTurns_10 : Db cX3_giveTurns 10 (fun o => .if_icmp .ge o) 13 20 := ⟨10, DX3_giveTurns_c0.2.2.2.2.2.2.1, rfl, rfl⟩
theorem dX3_giveTurns_13 : Dc cX3_giveTurns 13 (.aload_n 0) 1 14 := ⟨DX3_giveTurns_c0.2.2.2.2.2.2.2.1, rfl⟩
theorem dX3_giveTurns_14 : Dc cX3_giveTurns 14 (.getfield 32) 3 17 := ⟨DX3_giveTurns_c0.2.2.2.2.2.2.2.2.1, rfl⟩
theorem dX3_giveTurns_17 : Dc cX3_giveTurns 17 (.iload_n 1) 1 18 := ⟨DX3_giveTurns_c0.2.2.2.2.2.2.2.2.2.1, rfl⟩
theorem dX3_giveTurns_18 : Dc cX3_giveTurns 18 (.iload_n 2) 1 19 := ⟨DX3_giveTurns_c0.2.2.2.2.2.2.2.2.2.2.1, rfl⟩
theorem dX3_giveTurns_19 : Dc cX3_giveTurns 19 (.iastore) 1 20 := ⟨DX3_giveTurns_c0.2.2.2.2.2.2.2.2.2.2.2.1, rfl⟩
theorem dX3_giveTurns_20 : Dc cX3_giveTurns 20 (.return_) 1 21 := ⟨DX3_giveTurns_c0.2.2.2.2.2.2.2.2.2.2.2.2, rfl⟩
theorem DX3_append_c0 : decode cX3_append 0 = .ok (.aload_n 0, 1) ∧ decode cX3_append 1 = .ok (.iload_n 1, 1) ∧ decode cX3_append 2 = .ok (.invokevirtual 38, 3) ∧ decode cX3_append 5 = .ok (.istore 5, 2) ∧ decode cX3_append 7 = .ok (.iload_n 1, 1) ∧ decode cX3_append 8 = .ok (.aload_n 0, 1) ∧ decode cX3_append 9 = .ok (.getfield 13, 3) ∧ decode cX3_append 12 = .ok (.imul, 1) ∧ decode cX3_append 13 = .ok (.iload 5, 2) ∧ decode cX3_append 15 = .ok (.iadd, 1) ∧ decode cX3_append 16 = .ok (.istore 6, 2) ∧ decode cX3_append 18 = .ok (.aload_n 0, 1) ∧ decode cX3_append 19 = .ok (.iload_n 1, 1) ∧ decode cX3_append 20 = .ok (.invokevirtual 55, 3) ∧ decode cX3_append 23 = .ok (.ifCond .eq 62, 3) ∧ decode cX3_append 26 = .ok (.iload 5, 2) := by decide +kernel
theorem dX3_append_0 : Dc cX3_append 0 (.aload_n 0) 1 1 := ⟨DX3_append_c0.1, rfl⟩
theorem dX3_append_1 : Dc cX3_append 1 (.iload_n 1) 1 2 := ⟨DX3_append_c0.2.1, rfl⟩
theorem dX3_append_2 : Dc cX3_append 2 (.invokevirtual 38) 3 5 := ⟨DX3_append_c0.2.2.1, rfl⟩
theorem dX3_append_5 : Dc cX3_append 5 (.istore 5) 2 7 := ⟨DX3_append_c0.2.2.2.1, rfl⟩
theorem dX3_append_7 : Dc cX3_append 7 (.iload_n 1) 1 8 := ⟨DX3_append_c0.2.2.2.2.1, rfl⟩
theorem dX3_append_8 : Dc cX3_append 8 (.aload_n 0) 1 9 := ⟨DX3_append_c0.2.2.2.2.2.1, rfl⟩
theorem dX3_append_9 : Dc cX3_append 9 (.getfield 13) 3 12 := ⟨DX3_append_c0.2.2.2.2.2.2.1, rfl⟩
theorem dX3_append_12 : Dc cX3_append 12 (.imul) 1 13 := ⟨DX3_append_c0.2.2.2.2.2.2.2.1, rfl⟩
theorem dX3_append_13 : Dc cX3_append 13 (.iload 5) 2 15 := ⟨DX3_append_c0.2.2.2.2.2.2.2.2.1, rfl⟩
theorem dX3_append_15 : Dc cX3_append 15 (.iadd) 1 16 := ⟨DX3_append_c0.2.2.2.2.2.2.2.2.2.1, rfl⟩
theorem dX3_append_16 : Dc cX3_append 16 (.istore 6) 2 18 := ⟨DX3_append_c0.2.2.2.2.2.2.2.2.2.2.1, rfl⟩
theorem dX3_append_18 : Dc cX3_append 18 (.aload_n 0) 1 19 := ⟨DX3_append_c0.2.2.2.2.2.2.2.2.2.2.2.1, rfl⟩
theorem dX3_append_19 : Dc cX3_append 19 (.iload_n 1) 1 20 := ⟨DX3_append_c0.2.2.2.2.2.2.2.2.2.2.2.2.1, rfl⟩
theorem dX3_append_20 : Dc cX3_append 20 (.invokevirtual 55) 3 23 := ⟨DX3_append_c0.2.2.2.2.2.2.2.2.2.2.2.2.2.1, rfl⟩
theorem dX3_append_23 : Db cX3_append 23 (fun o => .ifCond .eq o) 26 85 := ⟨62, DX3_append_c0.2.2.2.2.2.2.2.2.2.2.2.2.2.2.1, rfl, rfl⟩
theorem dX3_append_26 : Dc cX3_append 26 (.iload 5) 2 28 := ⟨DX3_append_c0.2.2.2.2.2.2.2.2.2.2.2.2.2.2.2, rfl⟩
theorem DX3_append_c1 : decode cX3_append 28 = .ok (.aload_n 0, 1) ∧ decode cX3_append 29 = .ok (.getfield 13, 3) ∧ decode cX3_append 32 = .ok (.if_icmp .ge 53, 3) ∧ decode cX3_append 35 = .ok (.iload 6, 2) ∧ decode cX3_append 37 = .ok (.ifCond .lt 48, 3) ∧ decode cX3_append 40 = .ok (.iload 6, 2) ∧ decode cX3_append 42 = .ok (.aload_n 0, 1) ∧ decode cX3_append 43 = .ok (.getfield 19, 3) ∧ decode cX3_append 46 = .ok (.arraylength, 1) ∧ decode cX3_append 47 = .ok (.if_icmp .ge 38, 3) ∧ decode cX3_append 50 = .ok (.aload_n 0, 1) ∧ decode cX3_append 51 = .ok (.getfield 19, 3) ∧ decode cX3_append 54 = .ok (.iload 6, 2) ∧ decode cX3_append 56 = .ok (.iload_n 2, 1) ∧ decode cX3_append 57 = .ok (.iastore, 1) ∧ decode cX3_append 58 = .ok (.aload_n 0, 1) := by decide +kernel
theorem dX3_append_28 : Dc cX3_append 28 (.aload_n 0) 1 29 := ⟨DX3_append_c1.1, rfl⟩
theorem dX3_append_29 : Dc cX3_append 29 (.getfield 13) 3 32 := ⟨DX3_append_c1.2.1, rfl⟩
theorem dX3_append_32 : Db cX3_append 32 (fun o => .if_icmp .ge o) 35 85 := ⟨53, DX3_append_c1.2.2.1, rfl, rfl⟩
theorem dX3_append_35 : Dc cX3_append 35 (.iload 6) 2 37 := ⟨DX3_append_c1.2.2.2.1, rfl⟩
theorem dX3_append_37 : Db cX3_append 37 (fun o => .ifCond .lt o) 40 85 := ⟨48, DX3_append_c1.2.2.2.2.1, rfl, rfl⟩
theorem dX3_append_40 : Dc cX3_append 40 (.iload 6) 2 42 := ⟨DX3_append_c1.2.2.2.2.2.1, rfl⟩
theorem dX3_append_42 : Dc cX3_append 42 (.aload_n 0) 1 43 := ⟨DX3_append_c1.2.2.2.2.2.2.1, rfl⟩
theorem dX3_append_43 : Dc cX3_append 43 (.getfield 19) 3 46 := ⟨DX3_append_c1.2.2.2.2.2.2.2.1, rfl⟩
theorem dX3_append_46 : Dc cX3_append 46 (.arraylength) 1 47 := ⟨DX3_append_c1.2.2.2.2.2.2.2.2.1, rfl⟩
theorem dX3_append_47 : Db cX3_append 47 (fun o => .if_icmp .ge o) 50 85 := ⟨38, DX3_append_c1.2.2.2.2.2.2.2.2.2.1, rfl, rfl⟩
theorem dX3_append_50 : Dc cX3_append 50 (.aload_n 0) 1 51 := ⟨DX3_append_c1.2.2.2.2.2.2.2.2.2.2.1, rfl⟩
theorem dX3_append_51 : Dc cX3_append 51 (.getfield 19) 3 54 := ⟨DX3_append_c1.2.2.2.2.2.2.2.2.2.2.2.1, rfl⟩
theorem dX3_append_54 : Dc cX3_append 54 (.iload 6) 2 56 := ⟨DX3_append_c1.2.2.2.2.2.2.2.2.2.2.2.2.1, rfl⟩
theorem dX3_append_56 : Dc cX3_append 56 (.iload_n 2) 1 57 := ⟨DX3_append_c1.2.2.2.2.2.2.2.2.2.2.2.2.2.1, rfl⟩
theorem dX3_append_57 : Dc cX3_append 57 (.iastore) 1 58 := ⟨DX3_append_c1.2.2.2.2.2.2.2.2.2.2.2.2.2.2.1, rfl⟩
theorem dX3_append_58 : Dc cX3_append 58 (.aload_n 0) 1 59 := ⟨DX3_append_c1.2.2.2.2.2.2.2.2.2.2.2.2.2.2.2, rfl⟩
theorem DX3_append_c2 : decode cX3_append 59 = .ok (.getfield 23, 3) ∧ decode cX3_append 62 = .ok (.iload 6, 2) ∧ decode cX3_append 64 = .ok (.iload_n 3, 1) ∧ decode cX3_append 65 = .ok (.iastore, 1) ∧ decode cX3_append 66 = .ok (.aload_n 0, 1) ∧ decode cX3_append 67 = .ok (.getfield 26, 3) ∧ decode cX3_append 70 = .ok (.iload 6, 2) ∧ decode cX3_append 72 = .ok (.iload 4, 2) ∧ decode cX3_append 74 = .ok (.iastore, 1) ∧ decode cX3_append 75 = .ok (.aload_n 0, 1) ∧ decode cX3_append 76 = .ok (.getfield 29, 3) ∧ decode cX3_append 79 = .ok (.iload_n 1, 1) ∧ decode cX3_append 80 = .ok (.iload 5, 2) ∧ decode cX3_append 82 = .ok (.iconst 1, 1) ∧ decode cX3_append 83 = .ok (.iadd, 1) ∧ decode cX3_append 84 = .ok (.iastore, 1) := by decide +kernel
theorem dX3_append_59 : Dc cX3_append 59 (.getfield 23) 3 62 := ⟨DX3_append_c2.1, rfl⟩
theorem dX3_append_62 : Dc cX3_append 62 (.iload 6) 2 64 := ⟨DX3_append_c2.2.1, rfl⟩
theorem dX3_append_64 : Dc cX3_append 64 (.iload_n 3) 1 65 := ⟨DX3_append_c2.2.2.1, rfl⟩
theorem dX3_append_65 : Dc cX3_append 65 (.iastore) 1 66 := ⟨DX3_append_c2.2.2.2.1, rfl⟩
theorem dX3_append_66 : Dc cX3_append 66 (.aload_n 0) 1 67 := ⟨DX3_append_c2.2.2.2.2.1, rfl⟩
theorem dX3_append_67 : Dc cX3_append 67 (.getfield 26) 3 70 := ⟨DX3_append_c2.2.2.2.2.2.1, rfl⟩
theorem dX3_append_70 : Dc cX3_append 70 (.iload 6) 2 72 := ⟨DX3_append_c2.2.2.2.2.2.2.1, rfl⟩
theorem dX3_append_72 : Dc cX3_append 72 (.iload 4) 2 74 := ⟨DX3_append_c2.2.2.2.2.2.2.2.1, rfl⟩
theorem dX3_append_74 : Dc cX3_append 74 (.iastore) 1 75 := ⟨DX3_append_c2.2.2.2.2.2.2.2.2.1, rfl⟩
theorem dX3_append_75 : Dc cX3_append 75 (.aload_n 0) 1 76 := ⟨DX3_append_c2.2.2.2.2.2.2.2.2.2.1, rfl⟩
theorem dX3_append_76 : Dc cX3_append 76 (.getfield 29) 3 79 := ⟨DX3_append_c2.2.2.2.2.2.2.2.2.2.2.1, rfl⟩
theorem dX3_append_79 : Dc cX3_append 79 (.iload_n 1) 1 80 := ⟨DX3_append_c2.2.2.2.2.2.2.2.2.2.2.2.1, rfl⟩
theorem dX3_append_80 : Dc cX3_append 80 (.iload 5) 2 82 := ⟨DX3_append_c2.2.2.2.2.2.2.2.2.2.2.2.2.1, rfl⟩
theorem dX3_append_82 : Dc cX3_append 82 (.iconst 1) 1 83 := ⟨DX3_append_c2.2.2.2.2.2.2.2.2.2.2.2.2.2.1, rfl⟩
theorem dX3_append_83 : Dc cX3_append 83 (.iadd) 1 84 := ⟨DX3_append_c2.2.2.2.2.2.2.2.2.2.2.2.2.2.2.1, rfl⟩
theorem dX3_append_84 : Dc cX3_append 84 (.iastore) 1 85 := ⟨DX3_append_c2.2.2.2.2.2.2.2.2.2.2.2.2.2.2.2, rfl⟩
theorem DX3_append_c3 : decode cX3_append 85 = .ok (.return_, 1) := by decide +kernel
theorem dX3_append_85 : Dc cX3_append 85 (.return_) 1 86 := ⟨DX3_append_c3, rfl⟩
theorem DX3_drop_c0 : decode cX3_drop 0 = .ok (.aload_n 0, 1) ∧ decode cX3_drop 1 = .ok (.iload_n 1, 1) ∧ decode cX3_drop 2 = .ok (.invokevirtual 67, 3) ∧ decode cX3_drop 5 = .ok (.ifCond .ne 4, 3) ∧ decode cX3_drop 8 = .ok (.return_, 1) ∧ decode cX3_drop 9 = .ok (.aload_n 0, 1) ∧ decode cX3_drop 10 = .ok (.getfield 19, 3) ∧ decode cX3_drop 13 = .ok (.iload_n 1, 1) ∧ decode cX3_drop 14 = .ok (.aload_n 0, 1) ∧ decode cX3_drop 15 = .ok (.getfield 13, 3) ∧ decode cX3_drop 18 = .ok (.invokestatic 70, 3) ∧ decode cX3_drop 21 = .ok (.aload_n 0, 1) ∧ decode cX3_drop 22 = .ok (.getfield 23, 3) ∧ decode cX3_drop 25 = .ok (.iload_n 1, 1) ∧ decode cX3_drop 26 = .ok (.aload_n 0, 1) ∧ decode cX3_drop 27 = .ok (.getfield 13, 3) := by decide +kernel
theorem dX3_drop_0 : Dc cX3_drop 0 (.aload_n 0) 1 1 := ⟨DX3_drop_c0.1, rfl⟩
theorem dX3_drop_1 : Dc cX3_drop 1 (.iload_n 1) 1 2 := ⟨DX3_drop_c0.2.1, rfl⟩
theorem dX3_drop_2 : Dc cX3_drop 2 (.invokevirtual 67) 3 5 := ⟨DX3_drop_c0.2.2.1, rfl⟩
theorem dX3_drop_5 : Db cX3_drop 5 (fun o => .ifCond .ne o) 8 9 := ⟨4, DX3_drop_c0.2.2.2.1, rfl, rfl⟩
theorem dX3_drop_8 : Dc cX3_drop 8 (.return_) 1 9 := ⟨DX3_drop_c0.2.2.2.2.1, rfl⟩
theorem dX3_drop_9 : Dc cX3_drop 9 (.aload_n 0) 1 10 := ⟨DX3_drop_c0.2.2.2.2.2.1, rfl⟩
theorem dX3_drop_10 : Dc cX3_drop 10 (.getfield 19) 3 13 := ⟨DX3_drop_c0.2.2.2.2.2.2.1, rfl⟩
theorem dX3_drop_13 : Dc cX3_drop 13 (.iload_n 1) 1 14 := ⟨DX3_drop_c0.2.2.2.2.2.2.2.1, rfl⟩
theorem dX3_drop_14 : Dc cX3_drop 14 (.aload_n 0) 1 15 := ⟨DX3_drop_c0.2.2.2.2.2.2.2.2.1, rfl⟩
theorem dX3_drop_15 : Dc cX3_drop 15 (.getfield 13) 3 18 := ⟨DX3_drop_c0.2.2.2.2.2.2.2.2.2.1, rfl⟩
theorem dX3_drop_18 : Dc cX3_drop 18 (.invokestatic 70) 3 21 := ⟨DX3_drop_c0.2.2.2.2.2.2.2.2.2.2.1, rfl⟩
theorem dX3_drop_21 : Dc cX3_drop 21 (.aload_n 0) 1 22 := ⟨DX3_drop_c0.2.2.2.2.2.2.2.2.2.2.2.1, rfl⟩
theorem dX3_drop_22 : Dc cX3_drop 22 (.getfield 23) 3 25 := ⟨DX3_drop_c0.2.2.2.2.2.2.2.2.2.2.2.2.1, rfl⟩
theorem dX3_drop_25 : Dc cX3_drop 25 (.iload_n 1) 1 26 := ⟨DX3_drop_c0.2.2.2.2.2.2.2.2.2.2.2.2.2.1, rfl⟩
theorem dX3_drop_26 : Dc cX3_drop 26 (.aload_n 0) 1 27 := ⟨DX3_drop_c0.2.2.2.2.2.2.2.2.2.2.2.2.2.2.1, rfl⟩
theorem dX3_drop_27 : Dc cX3_drop 27 (.getfield 13) 3 30 := ⟨DX3_drop_c0.2.2.2.2.2.2.2.2.2.2.2.2.2.2.2, rfl⟩
theorem DX3_drop_c1 : decode cX3_drop 30 = .ok (.invokestatic 70, 3) ∧ decode cX3_drop 33 = .ok (.aload_n 0, 1) ∧ decode cX3_drop 34 = .ok (.getfield 26, 3) ∧ decode cX3_drop 37 = .ok (.iload_n 1, 1) ∧ decode cX3_drop 38 = .ok (.aload_n 0, 1) ∧ decode cX3_drop 39 = .ok (.getfield 13, 3) ∧ decode cX3_drop 42 = .ok (.invokestatic 70, 3) ∧ decode cX3_drop 45 = .ok (.aload_n 0, 1) ∧ decode cX3_drop 46 = .ok (.getfield 29, 3) ∧ decode cX3_drop 49 = .ok (.iload_n 1, 1) ∧ decode cX3_drop 50 = .ok (.iconst 1, 1) ∧ decode cX3_drop 51 = .ok (.invokestatic 70, 3) ∧ decode cX3_drop 54 = .ok (.aload_n 0, 1) ∧ decode cX3_drop 55 = .ok (.getfield 32, 3) ∧ decode cX3_drop 58 = .ok (.iload_n 1, 1) ∧ decode cX3_drop 59 = .ok (.iconst 1, 1) := by decide +kernel
theorem dX3_drop_30 : Dc cX3_drop 30 (.invokestatic 70) 3 33 := ⟨DX3_drop_c1.1, rfl⟩
theorem dX3_drop_33 : Dc cX3_drop 33 (.aload_n 0) 1 34 := ⟨DX3_drop_c1.2.1, rfl⟩
theorem dX3_drop_34 : Dc cX3_drop 34 (.getfield 26) 3 37 := ⟨DX3_drop_c1.2.2.1, rfl⟩
theorem dX3_drop_37 : Dc cX3_drop 37 (.iload_n 1) 1 38 := ⟨DX3_drop_c1.2.2.2.1, rfl⟩
theorem dX3_drop_38 : Dc cX3_drop 38 (.aload_n 0) 1 39 := ⟨DX3_drop_c1.2.2.2.2.1, rfl⟩
theorem dX3_drop_39 : Dc cX3_drop 39 (.getfield 13) 3 42 := ⟨DX3_drop_c1.2.2.2.2.2.1, rfl⟩
theorem dX3_drop_42 : Dc cX3_drop 42 (.invokestatic 70) 3 45 := ⟨DX3_drop_c1.2.2.2.2.2.2.1, rfl⟩
theorem dX3_drop_45 : Dc cX3_drop 45 (.aload_n 0) 1 46 := ⟨DX3_drop_c1.2.2.2.2.2.2.2.1, rfl⟩
theorem dX3_drop_46 : Dc cX3_drop 46 (.getfield 29) 3 49 := ⟨DX3_drop_c1.2.2.2.2.2.2.2.2.1, rfl⟩
theorem dX3_drop_49 : Dc cX3_drop 49 (.iload_n 1) 1 50 := ⟨DX3_drop_c1.2.2.2.2.2.2.2.2.2.1, rfl⟩
theorem dX3_drop_50 : Dc cX3_drop 50 (.iconst 1) 1 51 := ⟨DX3_drop_c1.2.2.2.2.2.2.2.2.2.2.1, rfl⟩
theorem dX3_drop_51 : Dc cX3_drop 51 (.invokestatic 70) 3 54 := ⟨DX3_drop_c1.2.2.2.2.2.2.2.2.2.2.2.1, rfl⟩
theorem dX3_drop_54 : Dc cX3_drop 54 (.aload_n 0) 1 55 := ⟨DX3_drop_c1.2.2.2.2.2.2.2.2.2.2.2.2.1, rfl⟩
theorem dX3_drop_55 : Dc cX3_drop 55 (.getfield 32) 3 58 := ⟨DX3_drop_c1.2.2.2.2.2.2.2.2.2.2.2.2.2.1, rfl⟩
theorem dX3_drop_58 : Dc cX3_drop 58 (.iload_n 1) 1 59 := ⟨DX3_drop_c1.2.2.2.2.2.2.2.2.2.2.2.2.2.2.1, rfl⟩
theorem dX3_drop_59 : Dc cX3_drop 59 (.iconst 1) 1 60 := ⟨DX3_drop_c1.2.2.2.2.2.2.2.2.2.2.2.2.2.2.2, rfl⟩
theorem DX3_drop_c2 : decode cX3_drop 60 = .ok (.invokestatic 70, 3) ∧ decode cX3_drop 63 = .ok (.aload_n 0, 1) ∧ decode cX3_drop 64 = .ok (.dup, 1) ∧ decode cX3_drop 65 = .ok (.getfield 35, 3) ∧ decode cX3_drop 68 = .ok (.iconst 1, 1) ∧ decode cX3_drop 69 = .ok (.isub, 1) ∧ decode cX3_drop 70 = .ok (.putfield 35, 3) ∧ decode cX3_drop 73 = .ok (.return_, 1) := by decide +kernel
theorem dX3_drop_60 : Dc cX3_drop 60 (.invokestatic 70) 3 63 := ⟨DX3_drop_c2.1, rfl⟩
theorem dX3_drop_63 : Dc cX3_drop 63 (.aload_n 0) 1 64 := ⟨DX3_drop_c2.2.1, rfl⟩
theorem dX3_drop_64 : Dc cX3_drop 64 (.dup) 1 65 := ⟨DX3_drop_c2.2.2.1, rfl⟩
theorem dX3_drop_65 : Dc cX3_drop 65 (.getfield 35) 3 68 := ⟨DX3_drop_c2.2.2.2.1, rfl⟩
theorem dX3_drop_68 : Dc cX3_drop 68 (.iconst 1) 1 69 := ⟨DX3_drop_c2.2.2.2.2.1, rfl⟩
theorem dX3_drop_69 : Dc cX3_drop 69 (.isub) 1 70 := ⟨DX3_drop_c2.2.2.2.2.2.1, rfl⟩
theorem dX3_drop_70 : Dc cX3_drop 70 (.putfield 35) 3 73 := ⟨DX3_drop_c2.2.2.2.2.2.2.1, rfl⟩
theorem dX3_drop_73 : Dc cX3_drop 73 (.return_) 1 74 := ⟨DX3_drop_c2.2.2.2.2.2.2.2, rfl⟩
theorem DX3_clear_c0 : decode cX3_clear 0 = .ok (.aload_n 0, 1) ∧ decode cX3_clear 1 = .ok (.iconst 0, 1) ∧ decode cX3_clear 2 = .ok (.putfield 35, 3) ∧ decode cX3_clear 5 = .ok (.return_, 1) := by decide +kernel
theorem dX3_clear_0 : Dc cX3_clear 0 (.aload_n 0) 1 1 := ⟨DX3_clear_c0.1, rfl⟩
theorem dX3_clear_1 : Dc cX3_clear 1 (.iconst 0) 1 2 := ⟨DX3_clear_c0.2.1, rfl⟩
theorem dX3_clear_2 : Dc cX3_clear 2 (.putfield 35) 3 5 := ⟨DX3_clear_c0.2.2.1, rfl⟩
theorem dX3_clear_5 : Dc cX3_clear 5 (.return_) 1 6 := ⟨DX3_clear_c0.2.2.2, rfl⟩
theorem DX3_copyFrom_c0 : decode cX3_copyFrom 0 = .ok (.aload_n 1, 1) ∧ decode cX3_copyFrom 1 = .ok (.getfield 19, 3) ∧ decode cX3_copyFrom 4 = .ok (.aload_n 0, 1) ∧ decode cX3_copyFrom 5 = .ok (.getfield 19, 3) ∧ decode cX3_copyFrom 8 = .ok (.invokestatic 74, 3) ∧ decode cX3_copyFrom 11 = .ok (.aload_n 1, 1) ∧ decode cX3_copyFrom 12 = .ok (.getfield 23, 3) ∧ decode cX3_copyFrom 15 = .ok (.aload_n 0, 1) ∧ decode cX3_copyFrom 16 = .ok (.getfield 23, 3) ∧ decode cX3_copyFrom 19 = .ok (.invokestatic 74, 3) ∧ decode cX3_copyFrom 22 = .ok (.aload_n 1, 1) ∧ decode cX3_copyFrom 23 = .ok (.getfield 26, 3) ∧ decode cX3_copyFrom 26 = .ok (.aload_n 0, 1) ∧ decode cX3_copyFrom 27 = .ok (.getfield 26, 3) ∧ decode cX3_copyFrom 30 = .ok (.invokestatic 74, 3) ∧ decode cX3_copyFrom 33 = .ok (.aload_n 1, 1) := by decide +kernel
theorem dX3_copyFrom_0 : Dc cX3_copyFrom 0 (.aload_n 1) 1 1 := ⟨DX3_copyFrom_c0.1, rfl⟩
theorem dX3_copyFrom_1 : Dc cX3_copyFrom 1 (.getfield 19) 3 4 := ⟨DX3_copyFrom_c0.2.1, rfl⟩
theorem dX3_copyFrom_4 : Dc cX3_copyFrom 4 (.aload_n 0) 1 5 := ⟨DX3_copyFrom_c0.2.2.1, rfl⟩
theorem dX3_copyFrom_5 : Dc cX3_copyFrom 5 (.getfield 19) 3 8 := ⟨DX3_copyFrom_c0.2.2.2.1, rfl⟩
theorem dX3_copyFrom_8 : Dc cX3_copyFrom 8 (.invokestatic 74) 3 11 := ⟨DX3_copyFrom_c0.2.2.2.2.1, rfl⟩
theorem dX3_copyFrom_11 : Dc cX3_copyFrom 11 (.aload_n 1) 1 12 := ⟨DX3_copyFrom_c0.2.2.2.2.2.1, rfl⟩
theorem dX3_copyFrom_12 : Dc cX3_copyFrom 12 (.getfield 23) 3 15 := ⟨DX3_copyFrom_c0.2.2.2.2.2.2.1, rfl⟩
theorem dX3_copyFrom_15 : Dc cX3_copyFrom 15 (.aload_n 0) 1 16 := ⟨DX3_copyFrom_c0.2.2.2.2.2.2.2.1, rfl⟩
theorem dX3_copyFrom_16 : Dc cX3_copyFrom 16 (.getfield 23) 3 19 := ⟨DX3_copyFrom_c0.2.2.2.2.2.2.2.2.1, rfl⟩
theorem dX3_copyFrom_19 : Dc cX3_copyFrom 19 (.invokestatic 74) 3 22 := ⟨DX3_copyFrom_c0.2.2.2.2.2.2.2.2.2.1, rfl⟩
theorem dX3_copyFrom_22 : Dc cX3_copyFrom 22 (.aload_n 1) 1 23 := ⟨DX3_copyFrom_c0.2.2.2.2.2.2.2.2.2.2.1, rfl⟩
theorem dX3_copyFrom_23 : Dc cX3_copyFrom 23 (.getfield 26) 3 26 := ⟨DX3_copyFrom_c0.2.2.2.2.2.2.2.2.2.2.2.1, rfl⟩
theorem dX3_copyFrom_26 : Dc cX3_copyFrom 26 (.aload_n 0) 1 27 := ⟨DX3_copyFrom_c0.2.2.2.2.2.2.2.2.2.2.2.2.1, rfl⟩
theorem dX3_copyFrom_27 : Dc cX3_copyFrom 27 (.getfield 26) 3 30 := ⟨DX3_copyFrom_c0.2.2.2.2.2.2.2.2.2.2.2.2.2.1, rfl⟩
theorem dX3_copyFrom_30 : Dc cX3_copyFrom 30 (.invokestatic 74) 3 33 := ⟨DX3_copyFrom_c0.2.2.2.2.2.2.2.2.2.2.2.2.2.2.1, rfl⟩
theorem dX3_copyFrom_33 : Dc cX3_copyFrom 33 (.aload_n 1) 1 34 := ⟨DX3_copyFrom_c0.2.2.2.2.2.2.2.2.2.2.2.2.2.2.2, rfl⟩
theorem DX3_copyFrom_c1 : decode cX3_copyFrom 34 = .ok (.getfield 29, 3) ∧ decode cX3_copyFrom 37 = .ok (.aload_n 0, 1) ∧ decode cX3_copyFrom 38 = .ok (.getfield 29, 3) ∧ decode cX3_copyFrom 41 = .ok (.invokestatic 74, 3) ∧ decode cX3_copyFrom 44 = .ok (.aload_n 1, 1) ∧ decode cX3_copyFrom 45 = .ok (.getfield 32, 3) ∧ decode cX3_copyFrom 48 = .ok (.aload_n 0, 1) ∧ decode cX3_copyFrom 49 = .ok (.getfield 32, 3) ∧ decode cX3_copyFrom 52 = .ok (.invokestatic 74, 3) ∧ decode cX3_copyFrom 55 = .ok (.aload_n 0, 1) ∧ decode cX3_copyFrom 56 = .ok (.aload_n 1, 1) ∧ decode cX3_copyFrom 57 = .ok (.getfield 35, 3) ∧ decode cX3_copyFrom 60 = .ok (.putfield 35, 3) ∧ decode cX3_copyFrom 63 = .ok (.return_, 1) := by decide +kernel
theorem dX3_copyFrom_34 : Dc cX3_copyFrom 34 (.getfield 29) 3 37 := ⟨DX3_copyFrom_c1.1, rfl⟩
theorem dX3_copyFrom_37 : Dc cX3_copyFrom 37 (.aload_n 0) 1 38 := ⟨DX3_copyFrom_c1.2.1, rfl⟩
theorem dX3_copyFrom_38 : Dc cX3_copyFrom 38 (.getfield 29) 3 41 := ⟨DX3_copyFrom_c1.2.2.1, rfl⟩
theorem dX3_copyFrom_41 : Dc cX3_copyFrom 41 (.invokestatic 74) 3 44 := ⟨DX3_copyFrom_c1.2.2.2.1, rfl⟩
theorem dX3_copyFrom_44 : Dc cX3_copyFrom 44 (.aload_n 1) 1 45 := ⟨DX3_copyFrom_c1.2.2.2.2.1, rfl⟩
theorem dX3_copyFrom_45 : Dc cX3_copyFrom 45 (.getfield 32) 3 48 := ⟨DX3_copyFrom_c1.2.2.2.2.2.1, rfl⟩
theorem dX3_copyFrom_48 : Dc cX3_copyFrom 48 (.aload_n 0) 1 49 := ⟨DX3_copyFrom_c1.2.2.2.2.2.2.1, rfl⟩
theorem dX3_copyFrom_49 : Dc cX3_copyFrom 49 (.getfield 32) 3 52 := ⟨DX3_copyFrom_c1.2.2.2.2.2.2.2.1, rfl⟩
theorem dX3_copyFrom_52 : Dc cX3_copyFrom 52 (.invokestatic 74) 3 55 := ⟨DX3_copyFrom_c1.2.2.2.2.2.2.2.2.1, rfl⟩
theorem dX3_copyFrom_55 : Dc cX3_copyFrom 55 (.aload_n 0) 1 56 := ⟨DX3_copyFrom_c1.2.2.2.2.2.2.2.2.2.1, rfl⟩
theorem dX3_copyFrom_56 : Dc cX3_copyFrom 56 (.aload_n 1) 1 57 := ⟨DX3_copyFrom_c1.2.2.2.2.2.2.2.2.2.2.1, rfl⟩
theorem dX3_copyFrom_57 : Dc cX3_copyFrom 57 (.getfield 35) 3 60 := ⟨DX3_copyFrom_c1.2.2.2.2.2.2.2.2.2.2.2.1, rfl⟩
theorem dX3_copyFrom_60 : Dc cX3_copyFrom 60 (.putfield 35) 3 63 := ⟨DX3_copyFrom_c1.2.2.2.2.2.2.2.2.2.2.2.2.1, rfl⟩
theorem dX3_copyFrom_63 : Dc cX3_copyFrom 63 (.return_) 1 64 := ⟨DX3_copyFrom_c1.2.2.2.2.2.2.2.2.2.2.2.2.2, rfl⟩
theorem DX3_hasPlace_c0 : decode cX3_hasPlace 0 = .ok (.iload_n 1, 1) ∧ decode cX3_hasPlace 1 = .ok (.ifCond .lt 16, 3) ∧ decode cX3_hasPlace 4 = .ok (.iload_n 1, 1) ∧ decode cX3_hasPlace 5 = .ok (.aload_n 0, 1) ∧ decode cX3_hasPlace 6 = .ok (.getfield 29, 3) ∧ decode cX3_hasPlace 9 = .ok (.arraylength, 1) ∧ decode cX3_hasPlace 10 = .ok (.if_icmp .ge 7, 3) ∧ decode cX3_hasPlace 13 = .ok (.iconst 1, 1) ∧ decode cX3_hasPlace 14 = .ok (.goto 4, 3) ∧ decode cX3_hasPlace 17 = .ok (.iconst 0, 1) ∧ decode cX3_hasPlace 18 = .ok (.ireturn, 1) := by decide +kernel
theorem dX3_hasPlace_0 : Dc cX3_hasPlace 0 (.iload_n 1) 1 1 := ⟨DX3_hasPlace_c0.1, rfl⟩
theorem dX3_hasPlace_1 : Db cX3_hasPlace 1 (fun o => .ifCond .lt o) 4 17 := ⟨16, DX3_hasPlace_c0.2.1, rfl, rfl⟩
theorem dX3_hasPlace_4 : Dc cX3_hasPlace 4 (.iload_n 1) 1 5 := ⟨DX3_hasPlace_c0.2.2.1, rfl⟩
theorem dX3_hasPlace_5 : Dc cX3_hasPlace 5 (.aload_n 0) 1 6 := ⟨DX3_hasPlace_c0.2.2.2.1, rfl⟩
theorem dX3_hasPlace_6 : Dc cX3_hasPlace 6 (.getfield 29) 3 9 := ⟨DX3_hasPlace_c0.2.2.2.2.1, rfl⟩
theorem dX3_hasPlace_9 : Dc cX3_hasPlace 9 (.arraylength) 1 10 := ⟨DX3_hasPlace_c0.2.2.2.2.2.1, rfl⟩
theorem dX3_hasPlace_10 : Db cX3_hasPlace 10 (fun o => .if_icmp .ge o) 13 17 := ⟨7, DX3_hasPlace_c0.2.2.2.2.2.2.1, rfl, rfl⟩
theorem dX3_hasPlace_13 : Dc cX3_hasPlace 13 (.iconst 1) 1 14 := ⟨DX3_hasPlace_c0.2.2.2.2.2.2.2.1, rfl⟩
theorem dX3_hasPlace_14 : Db cX3_hasPlace 14 .goto 17 18 := ⟨4, DX3_hasPlace_c0.2.2.2.2.2.2.2.2.1, rfl, rfl⟩
theorem dX3_hasPlace_17 : Dc cX3_hasPlace 17 (.iconst 0) 1 18 := ⟨DX3_hasPlace_c0.2.2.2.2.2.2.2.2.2.1, rfl⟩
theorem dX3_hasPlace_18 : Dc cX3_hasPlace 18 (.ireturn) 1 19 := ⟨DX3_hasPlace_c0.2.2.2.2.2.2.2.2.2.2, rfl⟩
theorem DX3_look_c0 : decode cX3_look 0 = .ok (.iload_n 2, 1) ∧ decode cX3_look 1 = .ok (.aload_n 0, 1) ∧ decode cX3_look 2 = .ok (.getfield 13, 3) ∧ decode cX3_look 5 = .ok (.imul, 1) ∧ decode cX3_look 6 = .ok (.iload_n 3, 1) ∧ decode cX3_look 7 = .ok (.iadd, 1) ∧ decode cX3_look 8 = .ok (.istore 4, 2) ∧ decode cX3_look 10 = .ok (.iload_n 3, 1) ∧ decode cX3_look 11 = .ok (.ifCond .lt 30, 3) ∧ decode cX3_look 14 = .ok (.iload_n 3, 1) ∧ decode cX3_look 15 = .ok (.aload_n 0, 1) ∧ decode cX3_look 16 = .ok (.getfield 13, 3) ∧ decode cX3_look 19 = .ok (.if_icmp .ge 22, 3) ∧ decode cX3_look 22 = .ok (.iload 4, 2) ∧ decode cX3_look 24 = .ok (.ifCond .lt 17, 3) ∧ decode cX3_look 27 = .ok (.iload 4, 2) := by decide +kernel
theorem dX3_look_0 : Dc cX3_look 0 (.iload_n 2) 1 1 := ⟨DX3_look_c0.1, rfl⟩
theorem dX3_look_1 : Dc cX3_look 1 (.aload_n 0) 1 2 := ⟨DX3_look_c0.2.1, rfl⟩
theorem dX3_look_2 : Dc cX3_look 2 (.getfield 13) 3 5 := ⟨DX3_look_c0.2.2.1, rfl⟩
theorem dX3_look_5 : Dc cX3_look 5 (.imul) 1 6 := ⟨DX3_look_c0.2.2.2.1, rfl⟩
theorem dX3_look_6 : Dc cX3_look 6 (.iload_n 3) 1 7 := ⟨DX3_look_c0.2.2.2.2.1, rfl⟩
theorem dX3_look_7 : Dc cX3_look 7 (.iadd) 1 8 := ⟨DX3_look_c0.2.2.2.2.2.1, rfl⟩
theorem dX3_look_8 : Dc cX3_look 8 (.istore 4) 2 10 := ⟨DX3_look_c0.2.2.2.2.2.2.1, rfl⟩
theorem dX3_look_10 : Dc cX3_look 10 (.iload_n 3) 1 11 := ⟨DX3_look_c0.2.2.2.2.2.2.2.1, rfl⟩
theorem dX3_look_11 : Db cX3_look 11 (fun o => .ifCond .lt o) 14 41 := ⟨30, DX3_look_c0.2.2.2.2.2.2.2.2.1, rfl, rfl⟩
theorem dX3_look_14 : Dc cX3_look 14 (.iload_n 3) 1 15 := ⟨DX3_look_c0.2.2.2.2.2.2.2.2.2.1, rfl⟩
theorem dX3_look_15 : Dc cX3_look 15 (.aload_n 0) 1 16 := ⟨DX3_look_c0.2.2.2.2.2.2.2.2.2.2.1, rfl⟩
theorem dX3_look_16 : Dc cX3_look 16 (.getfield 13) 3 19 := ⟨DX3_look_c0.2.2.2.2.2.2.2.2.2.2.2.1, rfl⟩
theorem dX3_look_19 : Db cX3_look 19 (fun o => .if_icmp .ge o) 22 41 := ⟨22, DX3_look_c0.2.2.2.2.2.2.2.2.2.2.2.2.1, rfl, rfl⟩
theorem dX3_look_22 : Dc cX3_look 22 (.iload 4) 2 24 := ⟨DX3_look_c0.2.2.2.2.2.2.2.2.2.2.2.2.2.1, rfl⟩
theorem dX3_look_24 : Db cX3_look 24 (fun o => .ifCond .lt o) 27 41 := ⟨17, DX3_look_c0.2.2.2.2.2.2.2.2.2.2.2.2.2.2.1, rfl, rfl⟩
theorem dX3_look_27 : Dc cX3_look 27 (.iload 4) 2 29 := ⟨DX3_look_c0.2.2.2.2.2.2.2.2.2.2.2.2.2.2.2, rfl⟩
theorem DX3_look_c1 : decode cX3_look 29 = .ok (.aload_n 1, 1) ∧ decode cX3_look 30 = .ok (.arraylength, 1) ∧ decode cX3_look 31 = .ok (.if_icmp .ge 10, 3) ∧ decode cX3_look 34 = .ok (.aload_n 1, 1) ∧ decode cX3_look 35 = .ok (.iload 4, 2) ∧ decode cX3_look 37 = .ok (.iaload, 1) ∧ decode cX3_look 38 = .ok (.goto 4, 3) ∧ decode cX3_look 41 = .ok (.iconst 0, 1) ∧ decode cX3_look 42 = .ok (.ireturn, 1) := by decide +kernel
theorem dX3_look_29 : Dc cX3_look 29 (.aload_n 1) 1 30 := ⟨DX3_look_c1.1, rfl⟩
theorem dX3_look_30 : Dc cX3_look 30 (.arraylength) 1 31 := ⟨DX3_look_c1.2.1, rfl⟩
theorem dX3_look_31 : Db cX3_look 31 (fun o => .if_icmp .ge o) 34 41 := ⟨10, DX3_look_c1.2.2.1, rfl, rfl⟩
theorem dX3_look_34 : Dc cX3_look 34 (.aload_n 1) 1 35 := ⟨DX3_look_c1.2.2.2.1, rfl⟩
theorem dX3_look_35 : Dc cX3_look 35 (.iload 4) 2 37 := ⟨DX3_look_c1.2.2.2.2.1, rfl⟩
theorem dX3_look_37 : Dc cX3_look 37 (.iaload) 1 38 := ⟨DX3_look_c1.2.2.2.2.2.1, rfl⟩
theorem dX3_look_38 : Db cX3_look 38 .goto 41 42 := ⟨4, DX3_look_c1.2.2.2.2.2.2.1, rfl, rfl⟩
theorem dX3_look_41 : Dc cX3_look 41 (.iconst 0) 1 42 := ⟨DX3_look_c1.2.2.2.2.2.2.2.1, rfl⟩
theorem dX3_look_42 : Dc cX3_look 42 (.ireturn) 1 43 := ⟨DX3_look_c1.2.2.2.2.2.2.2.2, rfl⟩
theorem DX3_moveUp_c0 : decode cX3_moveUp 0 = .ok (.iload_n 1, 1) ∧ decode cX3_moveUp 1 = .ok (.iload_n 2, 1) ∧ decode cX3_moveUp 2 = .ok (.imul, 1) ∧ decode cX3_moveUp 3 = .ok (.istore_n 3, 1) ∧ decode cX3_moveUp 4 = .ok (.iload_n 3, 1) ∧ decode cX3_moveUp 5 = .ok (.iload_n 2, 1) ∧ decode cX3_moveUp 6 = .ok (.iadd, 1) ∧ decode cX3_moveUp 7 = .ok (.istore 4, 2) ∧ decode cX3_moveUp 9 = .ok (.iload_n 3, 1) ∧ decode cX3_moveUp 10 = .ok (.ifCond .lt 29, 3) ∧ decode cX3_moveUp 13 = .ok (.iload 4, 2) ∧ decode cX3_moveUp 15 = .ok (.iload_n 3, 1) ∧ decode cX3_moveUp 16 = .ok (.if_icmp .lt 23, 3) ∧ decode cX3_moveUp 19 = .ok (.iload 4, 2) ∧ decode cX3_moveUp 21 = .ok (.aload_n 0, 1) ∧ decode cX3_moveUp 22 = .ok (.arraylength, 1) := by decide +kernel
theorem dX3_moveUp_0 : Dc cX3_moveUp 0 (.iload_n 1) 1 1 := ⟨DX3_moveUp_c0.1, rfl⟩
theorem dX3_moveUp_1 : Dc cX3_moveUp 1 (.iload_n 2) 1 2 := ⟨DX3_moveUp_c0.2.1, rfl⟩
theorem dX3_moveUp_2 : Dc cX3_moveUp 2 (.imul) 1 3 := ⟨DX3_moveUp_c0.2.2.1, rfl⟩
theorem dX3_moveUp_3 : Dc cX3_moveUp 3 (.istore_n 3) 1 4 := ⟨DX3_moveUp_c0.2.2.2.1, rfl⟩
theorem dX3_moveUp_4 : Dc cX3_moveUp 4 (.iload_n 3) 1 5 := ⟨DX3_moveUp_c0.2.2.2.2.1, rfl⟩
theorem dX3_moveUp_5 : Dc cX3_moveUp 5 (.iload_n 2) 1 6 := ⟨DX3_moveUp_c0.2.2.2.2.2.1, rfl⟩
theorem dX3_moveUp_6 : Dc cX3_moveUp 6 (.iadd) 1 7 := ⟨DX3_moveUp_c0.2.2.2.2.2.2.1, rfl⟩
theorem dX3_moveUp_7 : Dc cX3_moveUp 7 (.istore 4) 2 9 := ⟨DX3_moveUp_c0.2.2.2.2.2.2.2.1, rfl⟩
theorem dX3_moveUp_9 : Dc cX3_moveUp 9 (.iload_n 3) 1 10 := ⟨DX3_moveUp_c0.2.2.2.2.2.2.2.2.1, rfl⟩
theorem dX3_moveUp_10 : Db cX3_moveUp 10 (fun o => .ifCond .lt o) 13 39 := ⟨29, DX3_moveUp_c0.2.2.2.2.2.2.2.2.2.1, rfl, rfl⟩
theorem dX3_moveUp_13 : Dc cX3_moveUp 13 (.iload 4) 2 15 := ⟨DX3_moveUp_c0.2.2.2.2.2.2.2.2.2.2.1, rfl⟩
theorem dX3_moveUp_15 : Dc cX3_moveUp 15 (.iload_n 3) 1 16 := ⟨DX3_moveUp_c0.2.2.2.2.2.2.2.2.2.2.2.1, rfl⟩
theorem dX3_moveUp_16 : Db cX3_moveUp 16 (fun o => .if_icmp .lt o) 19 39 := ⟨23, DX3_moveUp_c0.2.2.2.2.2.2.2.2.2.2.2.2.1, rfl, rfl⟩
theorem dX3_moveUp_19 : Dc cX3_moveUp 19 (.iload 4) 2 21 := ⟨DX3_moveUp_c0.2.2.2.2.2.2.2.2.2.2.2.2.2.1, rfl⟩
theorem dX3_moveUp_21 : Dc cX3_moveUp 21 (.aload_n 0) 1 22 := ⟨DX3_moveUp_c0.2.2.2.2.2.2.2.2.2.2.2.2.2.2.1, rfl⟩
theorem dX3_moveUp_22 : Dc cX3_moveUp 22 (.arraylength) 1 23 := ⟨DX3_moveUp_c0.2.2.2.2.2.2.2.2.2.2.2.2.2.2.2, rfl⟩
theorem DX3_moveUp_c1 : decode cX3_moveUp 23 = .ok (.if_icmp .ge 16, 3) ∧ decode cX3_moveUp 26 = .ok (.aload_n 0, 1) ∧ decode cX3_moveUp 27 = .ok (.iload 4, 2) ∧ decode cX3_moveUp 29 = .ok (.aload_n 0, 1) ∧ decode cX3_moveUp 30 = .ok (.iload_n 3, 1) ∧ decode cX3_moveUp 31 = .ok (.aload_n 0, 1) ∧ decode cX3_moveUp 32 = .ok (.arraylength, 1) ∧ decode cX3_moveUp 33 = .ok (.iload 4, 2) ∧ decode cX3_moveUp 35 = .ok (.isub, 1) ∧ decode cX3_moveUp 36 = .ok (.invokestatic 80, 3) ∧ decode cX3_moveUp 39 = .ok (.return_, 1) := by decide +kernel
theorem dX3_moveUp_23 : Db cX3_moveUp 23 (fun o => .if_icmp .ge o) 26 39 := ⟨16, DX3_moveUp_c1.1, rfl, rfl⟩
theorem dX3_moveUp_26 : Dc cX3_moveUp 26 (.aload_n 0) 1 27 := ⟨DX3_moveUp_c1.2.1, rfl⟩
theorem dX3_moveUp_27 : Dc cX3_moveUp 27 (.iload 4) 2 29 := ⟨DX3_moveUp_c1.2.2.1, rfl⟩
theorem dX3_moveUp_29 : Dc cX3_moveUp 29 (.aload_n 0) 1 30 := ⟨DX3_moveUp_c1.2.2.2.1, rfl⟩
theorem dX3_moveUp_30 : Dc cX3_moveUp 30 (.iload_n 3) 1 31 := ⟨DX3_moveUp_c1.2.2.2.2.1, rfl⟩
theorem dX3_moveUp_31 : Dc cX3_moveUp 31 (.aload_n 0) 1 32 := ⟨DX3_moveUp_c1.2.2.2.2.2.1, rfl⟩
theorem dX3_moveUp_32 : Dc cX3_moveUp 32 (.arraylength) 1 33 := ⟨DX3_moveUp_c1.2.2.2.2.2.2.1, rfl⟩
theorem dX3_moveUp_33 : Dc cX3_moveUp 33 (.iload 4) 2 35 := ⟨DX3_moveUp_c1.2.2.2.2.2.2.2.1, rfl⟩
theorem dX3_moveUp_35 : Dc cX3_moveUp 35 (.isub) 1 36 := ⟨DX3_moveUp_c1.2.2.2.2.2.2.2.2.1, rfl⟩
theorem dX3_moveUp_36 : Dc cX3_moveUp 36 (.invokestatic 80) 3 39 := ⟨DX3_moveUp_c1.2.2.2.2.2.2.2.2.2.1, rfl⟩
theorem dX3_moveUp_39 : Dc cX3_moveUp 39 (.return_) 1 40 := ⟨DX3_moveUp_c1.2.2.2.2.2.2.2.2.2.2, rfl⟩
theorem DX4_init_c0 : decode cX4_init 0 = .ok (.aload_n 0, 1) ∧ decode cX4_init 1 = .ok (.invokespecial 3, 3) ∧ decode cX4_init 4 = .ok (.aload_n 0, 1) ∧ decode cX4_init 5 = .ok (.new 9, 3) ∧ decode cX4_init 8 = .ok (.dup, 1) ∧ decode cX4_init 9 = .ok (.invokespecial 11, 3) ∧ decode cX4_init 12 = .ok (.putfield 12, 3) ∧ decode cX4_init 15 = .ok (.aload_n 0, 1) ∧ decode cX4_init 16 = .ok (.new 18, 3) ∧ decode cX4_init 19 = .ok (.dup, 1) ∧ decode cX4_init 20 = .ok (.bipush 6, 2) ∧ decode cX4_init 22 = .ok (.bipush 12, 2) ∧ decode cX4_init 24 = .ok (.invokespecial 20, 3) ∧ decode cX4_init 27 = .ok (.putfield 23, 3) ∧ decode cX4_init 30 = .ok (.aload_n 0, 1) ∧ decode cX4_init 31 = .ok (.new 18, 3) := by decide +kernel
theorem dX4_init_0 : Dc cX4_init 0 (.aload_n 0) 1 1 := ⟨DX4_init_c0.1, rfl⟩
theorem dX4_init_1 : Dc cX4_init 1 (.invokespecial 3) 3 4 := ⟨DX4_init_c0.2.1, rfl⟩
theorem dX4_init_4 : Dc cX4_init 4 (.aload_n 0) 1 5 := ⟨DX4_init_c0.2.2.1, rfl⟩
theorem dX4_init_5 : Dc cX4_init 5 (.new 9) 3 8 := ⟨DX4_init_c0.2.2.2.1, rfl⟩
theorem dX4_init_8 : Dc cX4_init 8 (.dup) 1 9 := ⟨DX4_init_c0.2.2.2.2.1, rfl⟩
theorem dX4_init_9 : Dc cX4_init 9 (.invokespecial 11) 3 12 := ⟨DX4_init_c0.2.2.2.2.2.1, rfl⟩
theorem dX4_init_12 : Dc cX4_init 12 (.putfield 12) 3 15 := ⟨DX4_init_c0.2.2.2.2.2.2.1, rfl⟩
theorem dX4_init_15 : Dc cX4_init 15 (.aload_n 0) 1 16 := ⟨DX4_init_c0.2.2.2.2.2.2.2.1, rfl⟩
theorem dX4_init_16 : Dc cX4_init 16 (.new 18) 3 19 := ⟨DX4_init_c0.2.2.2.2.2.2.2.2.1, rfl⟩
theorem dX4_init_19 : Dc cX4_init 19 (.dup) 1 20 := ⟨DX4_init_c0.2.2.2.2.2.2.2.2.2.1, rfl⟩
theorem dX4_init_20 : Dc cX4_init 20 (.bipush 6) 2 22 := ⟨DX4_init_c0.2.2.2.2.2.2.2.2.2.2.1, rfl⟩
theorem dX4_init_22 : Dc cX4_init 22 (.bipush 12) 2 24 := ⟨DX4_init_c0.2.2.2.2.2.2.2.2.2.2.2.1, rfl⟩
theorem dX4_init_24 : Dc cX4_init 24 (.invokespecial 20) 3 27 := ⟨DX4_init_c0.2.2.2.2.2.2.2.2.2.2.2.2.1, rfl⟩
theorem dX4_init_27 : Dc cX4_init 27 (.putfield 23) 3 30 := ⟨DX4_init_c0.2.2.2.2.2.2.2.2.2.2.2.2.2.1, rfl⟩
theorem dX4_init_30 : Dc cX4_init 30 (.aload_n 0) 1 31 := ⟨DX4_init_c0.2.2.2.2.2.2.2.2.2.2.2.2.2.2.1, rfl⟩
theorem dX4_init_31 : Dc cX4_init 31 (.new 18) 3 34 := ⟨DX4_init_c0.2.2.2.2.2.2.2.2.2.2.2.2.2.2.2, rfl⟩
theorem DX4_init_c1 : decode cX4_init 34 = .ok (.dup, 1) ∧ decode cX4_init 35 = .ok (.bipush 6, 2) ∧ decode cX4_init 37 = .ok (.bipush 12, 2) ∧ decode cX4_init 39 = .ok (.invokespecial 20, 3) ∧ decode cX4_init 42 = .ok (.putfield 27, 3) ∧ decode cX4_init 45 = .ok (.aload_n 0, 1) ∧ decode cX4_init 46 = .ok (.bipush (-5), 2) ∧ decode cX4_init 48 = .ok (.putfield 30, 3) ∧ decode cX4_init 51 = .ok (.return_, 1) := by decide +kernel
theorem dX4_init_34 : Dc cX4_init 34 (.dup) 1 35 := ⟨DX4_init_c1.1, rfl⟩
theorem dX4_init_35 : Dc cX4_init 35 (.bipush 6) 2 37 := ⟨DX4_init_c1.2.1, rfl⟩
theorem dX4_init_37 : Dc cX4_init 37 (.bipush 12) 2 39 := ⟨DX4_init_c1.2.2.1, rfl⟩
theorem dX4_init_39 : Dc cX4_init 39 (.invokespecial 20) 3 42 := ⟨DX4_init_c1.2.2.2.1, rfl⟩
theorem dX4_init_42 : Dc cX4_init 42 (.putfield 27) 3 45 := ⟨DX4_init_c1.2.2.2.2.1, rfl⟩
theorem dX4_init_45 : Dc cX4_init 45 (.aload_n 0) 1 46 := ⟨DX4_init_c1.2.2.2.2.2.1, rfl⟩
theorem dX4_init_46 : Dc cX4_init 46 (.bipush (-5)) 2 48 := ⟨DX4_init_c1.2.2.2.2.2.2.1, rfl⟩
theorem dX4_init_48 : Dc cX4_init 48 (.putfield 30) 3 51 := ⟨DX4_init_c1.2.2.2.2.2.2.2.1, rfl⟩
theorem dX4_init_51 : Dc cX4_init 51 (.return_) 1 52 := ⟨DX4_init_c1.2.2.2.2.2.2.2.2, rfl⟩
theorem DX4_openSize_c0 : decode cX4_openSize 0 = .ok (.aload_n 0, 1) ∧ decode cX4_openSize 1 = .ok (.getfield 23, 3) ∧ decode cX4_openSize 4 = .ok (.aload_n 0, 1) ∧ decode cX4_openSize 5 = .ok (.getfield 23, 3) ∧ decode cX4_openSize 8 = .ok (.getfield 34, 3) ∧ decode cX4_openSize 11 = .ok (.invokevirtual 37, 3) ∧ decode cX4_openSize 14 = .ok (.ireturn, 1) := by decide +kernel
theorem dX4_openSize_0 : Dc cX4_openSize 0 (.aload_n 0) 1 1 := ⟨DX4_openSize_c0.1, rfl⟩
theorem dX4_openSize_1 : Dc cX4_openSize 1 (.getfield 23) 3 4 := ⟨DX4_openSize_c0.2.1, rfl⟩
theorem dX4_openSize_4 : Dc cX4_openSize 4 (.aload_n 0) 1 5 := ⟨DX4_openSize_c0.2.2.1, rfl⟩
theorem dX4_openSize_5 : Dc cX4_openSize 5 (.getfield 23) 3 8 := ⟨DX4_openSize_c0.2.2.2.1, rfl⟩
theorem dX4_openSize_8 : Dc cX4_openSize 8 (.getfield 34) 3 11 := ⟨DX4_openSize_c0.2.2.2.2.1, rfl⟩
theorem dX4_openSize_11 : Dc cX4_openSize 11 (.invokevirtual 37) 3 14 := ⟨DX4_openSize_c0.2.2.2.2.2.1, rfl⟩
theorem dX4_openSize_14 : Dc cX4_openSize 14 (.ireturn) 1 15 := ⟨DX4_openSize_c0.2.2.2.2.2.2, rfl⟩
theorem DX4_obey_c0 : decode cX4_obey 0 = .ok (.aload_n 0, 1) ∧ decode cX4_obey 1 = .ok (.getfield 12, 3) ∧ decode cX4_obey 4 = .ok (.iload_n 1, 1) ∧ decode cX4_obey 5 = .ok (.iload_n 2, 1) ∧ decode cX4_obey 6 = .ok (.invokevirtual 41, 3) ∧ decode cX4_obey 9 = .ok (.istore_n 3, 1) ∧ decode cX4_obey 10 = .ok (.aload_n 0, 1) ∧ decode cX4_obey 11 = .ok (.dup, 1) ∧ decode cX4_obey 12 = .ok (.getfield 45, 3) ∧ decode cX4_obey 15 = .ok (.iconst 1, 1) ∧ decode cX4_obey 16 = .ok (.iadd, 1) ∧ decode cX4_obey 17 = .ok (.putfield 45, 3) ∧ decode cX4_obey 20 = .ok (.iload_n 3, 1) ∧ decode cX4_obey 21 = .ok (.ifCond .ne 13, 3) ∧ decode cX4_obey 24 = .ok (.aload_n 0, 1) ∧ decode cX4_obey 25 = .ok (.dup, 1) := by decide +kernel
theorem dX4_obey_0 : Dc cX4_obey 0 (.aload_n 0) 1 1 := ⟨DX4_obey_c0.1, rfl⟩
theorem dX4_obey_1 : Dc cX4_obey 1 (.getfield 12) 3 4 := ⟨DX4_obey_c0.2.1, rfl⟩
theorem dX4_obey_4 : Dc cX4_obey 4 (.iload_n 1) 1 5 := ⟨DX4_obey_c0.2.2.1, rfl⟩
theorem dX4_obey_5 : Dc cX4_obey 5 (.iload_n 2) 1 6 := ⟨DX4_obey_c0.2.2.2.1, rfl⟩
theorem dX4_obey_6 : Dc cX4_obey 6 (.invokevirtual 41) 3 9 := ⟨DX4_obey_c0.2.2.2.2.1, rfl⟩
theorem dX4_obey_9 : Dc cX4_obey 9 (.istore_n 3) 1 10 := ⟨DX4_obey_c0.2.2.2.2.2.1, rfl⟩
theorem dX4_obey_10 : Dc cX4_obey 10 (.aload_n 0) 1 11 := ⟨DX4_obey_c0.2.2.2.2.2.2.1, rfl⟩
theorem dX4_obey_11 : Dc cX4_obey 11 (.dup) 1 12 := ⟨DX4_obey_c0.2.2.2.2.2.2.2.1, rfl⟩
theorem dX4_obey_12 : Dc cX4_obey 12 (.getfield 45) 3 15 := ⟨DX4_obey_c0.2.2.2.2.2.2.2.2.1, rfl⟩
theorem dX4_obey_15 : Dc cX4_obey 15 (.iconst 1) 1 16 := ⟨DX4_obey_c0.2.2.2.2.2.2.2.2.2.1, rfl⟩
theorem dX4_obey_16 : Dc cX4_obey 16 (.iadd) 1 17 := ⟨DX4_obey_c0.2.2.2.2.2.2.2.2.2.2.1, rfl⟩
theorem dX4_obey_17 : Dc cX4_obey 17 (.putfield 45) 3 20 := ⟨DX4_obey_c0.2.2.2.2.2.2.2.2.2.2.2.1, rfl⟩
theorem dX4_obey_20 : Dc cX4_obey 20 (.iload_n 3) 1 21 := ⟨DX4_obey_c0.2.2.2.2.2.2.2.2.2.2.2.2.1, rfl⟩
theorem dX4_obey_21 : Db cX4_obey 21 (fun o => .ifCond .ne o) 24 34 := ⟨13, DX4_obey_c0.2.2.2.2.2.2.2.2.2.2.2.2.2.1, rfl, rfl⟩
theorem dX4_obey_24 : Dc cX4_obey 24 (.aload_n 0) 1 25 := ⟨DX4_obey_c0.2.2.2.2.2.2.2.2.2.2.2.2.2.2.1, rfl⟩
theorem dX4_obey_25 : Dc cX4_obey 25 (.dup) 1 26 := ⟨DX4_obey_c0.2.2.2.2.2.2.2.2.2.2.2.2.2.2.2, rfl⟩
theorem DX4_obey_c1 : decode cX4_obey 26 = .ok (.getfield 48, 3) ∧ decode cX4_obey 29 = .ok (.iconst 1, 1) ∧ decode cX4_obey 30 = .ok (.iadd, 1) ∧ decode cX4_obey 31 = .ok (.putfield 48, 3) ∧ decode cX4_obey 34 = .ok (.iload_n 3, 1) ∧ decode cX4_obey 35 = .ok (.ireturn, 1) := by decide +kernel
theorem dX4_obey_26 : Dc cX4_obey 26 (.getfield 48) 3 29 := ⟨DX4_obey_c1.1, rfl⟩
theorem dX4_obey_29 : Dc cX4_obey 29 (.iconst 1) 1 30 := ⟨DX4_obey_c1.2.1, rfl⟩
theorem dX4_obey_30 : Dc cX4_obey 30 (.iadd) 1 31 := ⟨DX4_obey_c1.2.2.1, rfl⟩
theorem dX4_obey_31 : Dc cX4_obey 31 (.putfield 48) 3 34 := ⟨DX4_obey_c1.2.2.2.1, rfl⟩
theorem dX4_obey_34 : Dc cX4_obey 34 (.iload_n 3) 1 35 := ⟨DX4_obey_c1.2.2.2.2.1, rfl⟩
theorem dX4_obey_35 : Dc cX4_obey 35 (.ireturn) 1 36 := ⟨DX4_obey_c1.2.2.2.2.2, rfl⟩
theorem DX4_playLoop_c0 : decode cX4_playLoop 0 = .ok (.aload_n 1, 1) ∧ decode cX4_playLoop 1 = .ok (.aload_n 0, 1) ∧ decode cX4_playLoop 2 = .ok (.getfield 12, 3) ∧ decode cX4_playLoop 5 = .ok (.aload_n 2, 1) ∧ decode cX4_playLoop 6 = .ok (.iload_n 3, 1) ∧ decode cX4_playLoop 7 = .ok (.aload_n 2, 1) ∧ decode cX4_playLoop 8 = .ok (.iload_n 3, 1) ∧ decode cX4_playLoop 9 = .ok (.invokevirtual 51, 3) ∧ decode cX4_playLoop 12 = .ok (.invokevirtual 54, 3) ∧ decode cX4_playLoop 15 = .ok (.aload_n 0, 1) ∧ decode cX4_playLoop 16 = .ok (.dup, 1) ∧ decode cX4_playLoop 17 = .ok (.getfield 45, 3) ∧ decode cX4_playLoop 20 = .ok (.aload_n 1, 1) ∧ decode cX4_playLoop 21 = .ok (.getfield 60, 3) ∧ decode cX4_playLoop 24 = .ok (.iadd, 1) ∧ decode cX4_playLoop 25 = .ok (.putfield 45, 3) := by decide +kernel
theorem dX4_playLoop_0 : Dc cX4_playLoop 0 (.aload_n 1) 1 1 := ⟨DX4_playLoop_c0.1, rfl⟩
theorem dX4_playLoop_1 : Dc cX4_playLoop 1 (.aload_n 0) 1 2 := ⟨DX4_playLoop_c0.2.1, rfl⟩
theorem dX4_playLoop_2 : Dc cX4_playLoop 2 (.getfield 12) 3 5 := ⟨DX4_playLoop_c0.2.2.1, rfl⟩
theorem dX4_playLoop_5 : Dc cX4_playLoop 5 (.aload_n 2) 1 6 := ⟨DX4_playLoop_c0.2.2.2.1, rfl⟩
theorem dX4_playLoop_6 : Dc cX4_playLoop 6 (.iload_n 3) 1 7 := ⟨DX4_playLoop_c0.2.2.2.2.1, rfl⟩
theorem dX4_playLoop_7 : Dc cX4_playLoop 7 (.aload_n 2) 1 8 := ⟨DX4_playLoop_c0.2.2.2.2.2.1, rfl⟩
theorem dX4_playLoop_8 : Dc cX4_playLoop 8 (.iload_n 3) 1 9 := ⟨DX4_playLoop_c0.2.2.2.2.2.2.1, rfl⟩
theorem dX4_playLoop_9 : Dc cX4_playLoop 9 (.invokevirtual 51) 3 12 := ⟨DX4_playLoop_c0.2.2.2.2.2.2.2.1, rfl⟩
theorem dX4_playLoop_12 : Dc cX4_playLoop 12 (.invokevirtual 54) 3 15 := ⟨DX4_playLoop_c0.2.2.2.2.2.2.2.2.1, rfl⟩
theorem dX4_playLoop_15 : Dc cX4_playLoop 15 (.aload_n 0) 1 16 := ⟨DX4_playLoop_c0.2.2.2.2.2.2.2.2.2.1, rfl⟩
theorem dX4_playLoop_16 : Dc cX4_playLoop 16 (.dup) 1 17 := ⟨DX4_playLoop_c0.2.2.2.2.2.2.2.2.2.2.1, rfl⟩
theorem dX4_playLoop_17 : Dc cX4_playLoop 17 (.getfield 45) 3 20 := ⟨DX4_playLoop_c0.2.2.2.2.2.2.2.2.2.2.2.1, rfl⟩
theorem dX4_playLoop_20 : Dc cX4_playLoop 20 (.aload_n 1) 1 21 := ⟨DX4_playLoop_c0.2.2.2.2.2.2.2.2.2.2.2.2.1, rfl⟩
theorem dX4_playLoop_21 : Dc cX4_playLoop 21 (.getfield 60) 3 24 := ⟨DX4_playLoop_c0.2.2.2.2.2.2.2.2.2.2.2.2.2.1, rfl⟩
theorem dX4_playLoop_24 : Dc cX4_playLoop 24 (.iadd) 1 25 := ⟨DX4_playLoop_c0.2.2.2.2.2.2.2.2.2.2.2.2.2.2.1, rfl⟩
theorem dX4_playLoop_25 : Dc cX4_playLoop 25 (.putfield 45) 3 28 := ⟨DX4_playLoop_c0.2.2.2.2.2.2.2.2.2.2.2.2.2.2.2, rfl⟩
theorem DX4_playLoop_c1 : decode cX4_playLoop 28 = .ok (.aload_n 1, 1) ∧ decode cX4_playLoop 29 = .ok (.getfield 63, 3) ∧ decode cX4_playLoop 32 = .ok (.iconst 2, 1) ∧ decode cX4_playLoop 33 = .ok (.if_icmp .ne 13, 3) ∧ decode cX4_playLoop 36 = .ok (.aload_n 0, 1) ∧ decode cX4_playLoop 37 = .ok (.dup, 1) ∧ decode cX4_playLoop 38 = .ok (.getfield 48, 3) ∧ decode cX4_playLoop 41 = .ok (.iconst 1, 1) ∧ decode cX4_playLoop 42 = .ok (.iadd, 1) ∧ decode cX4_playLoop 43 = .ok (.putfield 48, 3) ∧ decode cX4_playLoop 46 = .ok (.aload_n 0, 1) ∧ decode cX4_playLoop 47 = .ok (.dup, 1) ∧ decode cX4_playLoop 48 = .ok (.getfield 66, 3) ∧ decode cX4_playLoop 51 = .ok (.iconst 1, 1) ∧ decode cX4_playLoop 52 = .ok (.iadd, 1) ∧ decode cX4_playLoop 53 = .ok (.putfield 66, 3) := by decide +kernel
theorem dX4_playLoop_28 : Dc cX4_playLoop 28 (.aload_n 1) 1 29 := ⟨DX4_playLoop_c1.1, rfl⟩
theorem dX4_playLoop_29 : Dc cX4_playLoop 29 (.getfield 63) 3 32 := ⟨DX4_playLoop_c1.2.1, rfl⟩
theorem dX4_playLoop_32 : Dc cX4_playLoop 32 (.iconst 2) 1 33 := ⟨DX4_playLoop_c1.2.2.1, rfl⟩
theorem dX4_playLoop_33 : Db cX4_playLoop 33 (fun o => .if_icmp .ne o) 36 46 := ⟨13, DX4_playLoop_c1.2.2.2.1, rfl, rfl⟩
theorem dX4_playLoop_36 : Dc cX4_playLoop 36 (.aload_n 0) 1 37 := ⟨DX4_playLoop_c1.2.2.2.2.1, rfl⟩
theorem dX4_playLoop_37 : Dc cX4_playLoop 37 (.dup) 1 38 := ⟨DX4_playLoop_c1.2.2.2.2.2.1, rfl⟩
theorem dX4_playLoop_38 : Dc cX4_playLoop 38 (.getfield 48) 3 41 := ⟨DX4_playLoop_c1.2.2.2.2.2.2.1, rfl⟩
theorem dX4_playLoop_41 : Dc cX4_playLoop 41 (.iconst 1) 1 42 := ⟨DX4_playLoop_c1.2.2.2.2.2.2.2.1, rfl⟩
theorem dX4_playLoop_42 : Dc cX4_playLoop 42 (.iadd) 1 43 := ⟨DX4_playLoop_c1.2.2.2.2.2.2.2.2.1, rfl⟩
theorem dX4_playLoop_43 : Dc cX4_playLoop 43 (.putfield 48) 3 46 := ⟨DX4_playLoop_c1.2.2.2.2.2.2.2.2.2.1, rfl⟩
theorem dX4_playLoop_46 : Dc cX4_playLoop 46 (.aload_n 0) 1 47 := ⟨DX4_playLoop_c1.2.2.2.2.2.2.2.2.2.2.1, rfl⟩
theorem dX4_playLoop_47 : Dc cX4_playLoop 47 (.dup) 1 48 := ⟨DX4_playLoop_c1.2.2.2.2.2.2.2.2.2.2.2.1, rfl⟩
theorem dX4_playLoop_48 : Dc cX4_playLoop 48 (.getfield 66) 3 51 := ⟨DX4_playLoop_c1.2.2.2.2.2.2.2.2.2.2.2.2.1, rfl⟩
theorem dX4_playLoop_51 : Dc cX4_playLoop 51 (.iconst 1) 1 52 := ⟨DX4_playLoop_c1.2.2.2.2.2.2.2.2.2.2.2.2.2.1, rfl⟩
theorem dX4_playLoop_52 : Dc cX4_playLoop 52 (.iadd) 1 53 := ⟨DX4_playLoop_c1.2.2.2.2.2.2.2.2.2.2.2.2.2.2.1, rfl⟩
theorem dX4_playLoop_53 : Dc cX4_playLoop 53 (.putfield 66) 3 56 := ⟨DX4_playLoop_c1.2.2.2.2.2.2.2.2.2.2.2.2.2.2.2, rfl⟩
theorem DX4_playLoop_c2 : decode cX4_playLoop 56 = .ok (.aload_n 0, 1) ∧ decode cX4_playLoop 57 = .ok (.aload_n 1, 1) ∧ decode cX4_playLoop 58 = .ok (.getfield 63, 3) ∧ decode cX4_playLoop 61 = .ok (.putfield 30, 3) ∧ decode cX4_playLoop 64 = .ok (.aload_n 1, 1) ∧ decode cX4_playLoop 65 = .ok (.getfield 60, 3) ∧ decode cX4_playLoop 68 = .ok (.ireturn, 1) := by decide +kernel
theorem dX4_playLoop_56 : Dc cX4_playLoop 56 (.aload_n 0) 1 57 := ⟨DX4_playLoop_c2.1, rfl⟩
theorem dX4_playLoop_57 : Dc cX4_playLoop 57 (.aload_n 1) 1 58 := ⟨DX4_playLoop_c2.2.1, rfl⟩
theorem dX4_playLoop_58 : Dc cX4_playLoop 58 (.getfield 63) 3 61 := ⟨DX4_playLoop_c2.2.2.1, rfl⟩
theorem dX4_playLoop_61 : Dc cX4_playLoop 61 (.putfield 30) 3 64 := ⟨DX4_playLoop_c2.2.2.2.1, rfl⟩
theorem dX4_playLoop_64 : Dc cX4_playLoop 64 (.aload_n 1) 1 65 := ⟨DX4_playLoop_c2.2.2.2.2.1, rfl⟩
theorem dX4_playLoop_65 : Dc cX4_playLoop 65 (.getfield 60) 3 68 := ⟨DX4_playLoop_c2.2.2.2.2.2.1, rfl⟩
theorem dX4_playLoop_68 : Dc cX4_playLoop 68 (.ireturn) 1 69 := ⟨DX4_playLoop_c2.2.2.2.2.2.2, rfl⟩
theorem DX4_copyFrom_c0 : decode cX4_copyFrom 0 = .ok (.aload_n 0, 1) ∧ decode cX4_copyFrom 1 = .ok (.getfield 12, 3) ∧ decode cX4_copyFrom 4 = .ok (.aload_n 1, 1) ∧ decode cX4_copyFrom 5 = .ok (.getfield 12, 3) ∧ decode cX4_copyFrom 8 = .ok (.invokevirtual 69, 3) ∧ decode cX4_copyFrom 11 = .ok (.aload_n 0, 1) ∧ decode cX4_copyFrom 12 = .ok (.getfield 23, 3) ∧ decode cX4_copyFrom 15 = .ok (.aload_n 1, 1) ∧ decode cX4_copyFrom 16 = .ok (.getfield 23, 3) ∧ decode cX4_copyFrom 19 = .ok (.invokevirtual 73, 3) ∧ decode cX4_copyFrom 22 = .ok (.aload_n 0, 1) ∧ decode cX4_copyFrom 23 = .ok (.getfield 27, 3) ∧ decode cX4_copyFrom 26 = .ok (.aload_n 1, 1) ∧ decode cX4_copyFrom 27 = .ok (.getfield 27, 3) ∧ decode cX4_copyFrom 30 = .ok (.invokevirtual 73, 3) ∧ decode cX4_copyFrom 33 = .ok (.aload_n 0, 1) := by decide +kernel
theorem dX4_copyFrom_0 : Dc cX4_copyFrom 0 (.aload_n 0) 1 1 := ⟨DX4_copyFrom_c0.1, rfl⟩
theorem dX4_copyFrom_1 : Dc cX4_copyFrom 1 (.getfield 12) 3 4 := ⟨DX4_copyFrom_c0.2.1, rfl⟩
theorem dX4_copyFrom_4 : Dc cX4_copyFrom 4 (.aload_n 1) 1 5 := ⟨DX4_copyFrom_c0.2.2.1, rfl⟩
theorem dX4_copyFrom_5 : Dc cX4_copyFrom 5 (.getfield 12) 3 8 := ⟨DX4_copyFrom_c0.2.2.2.1, rfl⟩
theorem dX4_copyFrom_8 : Dc cX4_copyFrom 8 (.invokevirtual 69) 3 11 := ⟨DX4_copyFrom_c0.2.2.2.2.1, rfl⟩
theorem dX4_copyFrom_11 : Dc cX4_copyFrom 11 (.aload_n 0) 1 12 := ⟨DX4_copyFrom_c0.2.2.2.2.2.1, rfl⟩
theorem dX4_copyFrom_12 : Dc cX4_copyFrom 12 (.getfield 23) 3 15 := ⟨DX4_copyFrom_c0.2.2.2.2.2.2.1, rfl⟩
theorem dX4_copyFrom_15 : Dc cX4_copyFrom 15 (.aload_n 1) 1 16 := ⟨DX4_copyFrom_c0.2.2.2.2.2.2.2.1, rfl⟩
theorem dX4_copyFrom_16 : Dc cX4_copyFrom 16 (.getfield 23) 3 19 := ⟨DX4_copyFrom_c0.2.2.2.2.2.2.2.2.1, rfl⟩
theorem dX4_copyFrom_19 : Dc cX4_copyFrom 19 (.invokevirtual 73) 3 22 := ⟨DX4_copyFrom_c0.2.2.2.2.2.2.2.2.2.1, rfl⟩
theorem dX4_copyFrom_22 : Dc cX4_copyFrom 22 (.aload_n 0) 1 23 := ⟨DX4_copyFrom_c0.2.2.2.2.2.2.2.2.2.2.1, rfl⟩
theorem dX4_copyFrom_23 : Dc cX4_copyFrom 23 (.getfield 27) 3 26 := ⟨DX4_copyFrom_c0.2.2.2.2.2.2.2.2.2.2.2.1, rfl⟩
theorem dX4_copyFrom_26 : Dc cX4_copyFrom 26 (.aload_n 1) 1 27 := ⟨DX4_copyFrom_c0.2.2.2.2.2.2.2.2.2.2.2.2.1, rfl⟩
theorem dX4_copyFrom_27 : Dc cX4_copyFrom 27 (.getfield 27) 3 30 := ⟨DX4_copyFrom_c0.2.2.2.2.2.2.2.2.2.2.2.2.2.1, rfl⟩
theorem dX4_copyFrom_30 : Dc cX4_copyFrom 30 (.invokevirtual 73) 3 33 := ⟨DX4_copyFrom_c0.2.2.2.2.2.2.2.2.2.2.2.2.2.2.1, rfl⟩
theorem dX4_copyFrom_33 : Dc cX4_copyFrom 33 (.aload_n 0) 1 34 := ⟨DX4_copyFrom_c0.2.2.2.2.2.2.2.2.2.2.2.2.2.2.2, rfl⟩
theorem DX4_copyFrom_c1 : decode cX4_copyFrom 34 = .ok (.aload_n 1, 1) ∧ decode cX4_copyFrom 35 = .ok (.getfield 76, 3) ∧ decode cX4_copyFrom 38 = .ok (.putfield 76, 3) ∧ decode cX4_copyFrom 41 = .ok (.aload_n 0, 1) ∧ decode cX4_copyFrom 42 = .ok (.aload_n 1, 1) ∧ decode cX4_copyFrom 43 = .ok (.getfield 45, 3) ∧ decode cX4_copyFrom 46 = .ok (.putfield 45, 3) ∧ decode cX4_copyFrom 49 = .ok (.aload_n 0, 1) ∧ decode cX4_copyFrom 50 = .ok (.aload_n 1, 1) ∧ decode cX4_copyFrom 51 = .ok (.getfield 48, 3) ∧ decode cX4_copyFrom 54 = .ok (.putfield 48, 3) ∧ decode cX4_copyFrom 57 = .ok (.aload_n 0, 1) ∧ decode cX4_copyFrom 58 = .ok (.aload_n 1, 1) ∧ decode cX4_copyFrom 59 = .ok (.getfield 66, 3) ∧ decode cX4_copyFrom 62 = .ok (.putfield 66, 3) ∧ decode cX4_copyFrom 65 = .ok (.aload_n 0, 1) := by decide +kernel
theorem dX4_copyFrom_34 : Dc cX4_copyFrom 34 (.aload_n 1) 1 35 := ⟨DX4_copyFrom_c1.1, rfl⟩
theorem dX4_copyFrom_35 : Dc cX4_copyFrom 35 (.getfield 76) 3 38 := ⟨DX4_copyFrom_c1.2.1, rfl⟩
theorem dX4_copyFrom_38 : Dc cX4_copyFrom 38 (.putfield 76) 3 41 := ⟨DX4_copyFrom_c1.2.2.1, rfl⟩
theorem dX4_copyFrom_41 : Dc cX4_copyFrom 41 (.aload_n 0) 1 42 := ⟨DX4_copyFrom_c1.2.2.2.1, rfl⟩
theorem dX4_copyFrom_42 : Dc cX4_copyFrom 42 (.aload_n 1) 1 43 := ⟨DX4_copyFrom_c1.2.2.2.2.1, rfl⟩
theorem dX4_copyFrom_43 : Dc cX4_copyFrom 43 (.getfield 45) 3 46 := ⟨DX4_copyFrom_c1.2.2.2.2.2.1, rfl⟩
theorem dX4_copyFrom_46 : Dc cX4_copyFrom 46 (.putfield 45) 3 49 := ⟨DX4_copyFrom_c1.2.2.2.2.2.2.1, rfl⟩
theorem dX4_copyFrom_49 : Dc cX4_copyFrom 49 (.aload_n 0) 1 50 := ⟨DX4_copyFrom_c1.2.2.2.2.2.2.2.1, rfl⟩
theorem dX4_copyFrom_50 : Dc cX4_copyFrom 50 (.aload_n 1) 1 51 := ⟨DX4_copyFrom_c1.2.2.2.2.2.2.2.2.1, rfl⟩
theorem dX4_copyFrom_51 : Dc cX4_copyFrom 51 (.getfield 48) 3 54 := ⟨DX4_copyFrom_c1.2.2.2.2.2.2.2.2.2.1, rfl⟩
theorem dX4_copyFrom_54 : Dc cX4_copyFrom 54 (.putfield 48) 3 57 := ⟨DX4_copyFrom_c1.2.2.2.2.2.2.2.2.2.2.1, rfl⟩
theorem dX4_copyFrom_57 : Dc cX4_copyFrom 57 (.aload_n 0) 1 58 := ⟨DX4_copyFrom_c1.2.2.2.2.2.2.2.2.2.2.2.1, rfl⟩
theorem dX4_copyFrom_58 : Dc cX4_copyFrom 58 (.aload_n 1) 1 59 := ⟨DX4_copyFrom_c1.2.2.2.2.2.2.2.2.2.2.2.2.1, rfl⟩
theorem dX4_copyFrom_59 : Dc cX4_copyFrom 59 (.getfield 66) 3 62 := ⟨DX4_copyFrom_c1.2.2.2.2.2.2.2.2.2.2.2.2.2.1, rfl⟩
theorem dX4_copyFrom_62 : Dc cX4_copyFrom 62 (.putfield 66) 3 65 := ⟨DX4_copyFrom_c1.2.2.2.2.2.2.2.2.2.2.2.2.2.2.1, rfl⟩
theorem dX4_copyFrom_65 : Dc cX4_copyFrom 65 (.aload_n 0) 1 66 := ⟨DX4_copyFrom_c1.2.2.2.2.2.2.2.2.2.2.2.2.2.2.2, rfl⟩
theorem DX4_copyFrom_c2 : decode cX4_copyFrom 66 = .ok (.aload_n 1, 1) ∧ decode cX4_copyFrom 67 = .ok (.getfield 30, 3) ∧ decode cX4_copyFrom 70 = .ok (.putfield 30, 3) ∧ decode cX4_copyFrom 73 = .ok (.return_, 1) := by decide +kernel
theorem dX4_copyFrom_66 : Dc cX4_copyFrom 66 (.aload_n 1) 1 67 := ⟨DX4_copyFrom_c2.1, rfl⟩
theorem dX4_copyFrom_67 : Dc cX4_copyFrom 67 (.getfield 30) 3 70 := ⟨DX4_copyFrom_c2.2.1, rfl⟩
theorem dX4_copyFrom_70 : Dc cX4_copyFrom 70 (.putfield 30) 3 73 := ⟨DX4_copyFrom_c2.2.2.1, rfl⟩
theorem dX4_copyFrom_73 : Dc cX4_copyFrom 73 (.return_) 1 74 := ⟨DX4_copyFrom_c2.2.2.2, rfl⟩
theorem DX5_init_c0 : decode cX5_init 0 = .ok (.aload_n 0, 1) ∧ decode cX5_init 1 = .ok (.invokespecial 3, 3) ∧ decode cX5_init 4 = .ok (.aload_n 0, 1) ∧ decode cX5_init 5 = .ok (.bipush 60, 2) ∧ decode cX5_init 7 = .ok (.newarray .char, 2) ∧ decode cX5_init 9 = .ok (.putfield 9, 3) ∧ decode cX5_init 12 = .ok (.aload_n 0, 1) ∧ decode cX5_init 13 = .ok (.new 15, 3) ∧ decode cX5_init 16 = .ok (.dup, 1) ∧ decode cX5_init 17 = .ok (.bipush 20, 2) ∧ decode cX5_init 19 = .ok (.bipush 20, 2) ∧ decode cX5_init 21 = .ok (.invokespecial 17, 3) ∧ decode cX5_init 24 = .ok (.putfield 20, 3) ∧ decode cX5_init 27 = .ok (.return_, 1) := by decide +kernel
theorem dX5_init_0 : Dc cX5_init 0 (.aload_n 0) 1 1 := ⟨DX5_init_c0.1, rfl⟩
theorem dX5_init_1 : Dc cX5_init 1 (.invokespecial 3) 3 4 := ⟨DX5_init_c0.2.1, rfl⟩
theorem dX5_init_4 : Dc cX5_init 4 (.aload_n 0) 1 5 := ⟨DX5_init_c0.2.2.1, rfl⟩
theorem dX5_init_5 : Dc cX5_init 5 (.bipush 60) 2 7 := ⟨DX5_init_c0.2.2.2.1, rfl⟩
theorem dX5_init_7 : Dc cX5_init 7 (.newarray .char) 2 9 := ⟨DX5_init_c0.2.2.2.2.1, rfl⟩
theorem dX5_init_9 : Dc cX5_init 9 (.putfield 9) 3 12 := ⟨DX5_init_c0.2.2.2.2.2.1, rfl⟩
theorem dX5_init_12 : Dc cX5_init 12 (.aload_n 0) 1 13 := ⟨DX5_init_c0.2.2.2.2.2.2.1, rfl⟩
theorem dX5_init_13 : Dc cX5_init 13 (.new 15) 3 16 := ⟨DX5_init_c0.2.2.2.2.2.2.2.1, rfl⟩
theorem dX5_init_16 : Dc cX5_init 16 (.dup) 1 17 := ⟨DX5_init_c0.2.2.2.2.2.2.2.2.1, rfl⟩
theorem dX5_init_17 : Dc cX5_init 17 (.bipush 20) 2 19 := ⟨DX5_init_c0.2.2.2.2.2.2.2.2.2.1, rfl⟩
theorem dX5_init_19 : Dc cX5_init 19 (.bipush 20) 2 21 := ⟨DX5_init_c0.2.2.2.2.2.2.2.2.2.2.1, rfl⟩
theorem dX5_init_21 : Dc cX5_init 21 (.invokespecial 17) 3 24 := ⟨DX5_init_c0.2.2.2.2.2.2.2.2.2.2.2.1, rfl⟩
theorem dX5_init_24 : Dc cX5_init 24 (.putfield 20) 3 27 := ⟨DX5_init_c0.2.2.2.2.2.2.2.2.2.2.2.2.1, rfl⟩
theorem dX5_init_27 : Dc cX5_init 27 (.return_) 1 28 := ⟨DX5_init_c0.2.2.2.2.2.2.2.2.2.2.2.2.2, rfl⟩
theorem DX5_read_c0 : decode cX5_read 0 = .ok (.aload_n 0, 1) ∧ decode cX5_read 1 = .ok (.iconst 0, 1) ∧ decode cX5_read 2 = .ok (.putfield 28, 3) ∧ decode cX5_read 5 = .ok (.aload_n 0, 1) ∧ decode cX5_read 6 = .ok (.getfield 20, 3) ∧ decode cX5_read 9 = .ok (.invokevirtual 31, 3) ∧ decode cX5_read 12 = .ok (.iconst 0, 1) ∧ decode cX5_read 13 = .ok (.istore_n 1, 1) ∧ decode cX5_read 14 = .ok (.iload_n 1, 1) ∧ decode cX5_read 15 = .ok (.bipush 60, 2) ∧ decode cX5_read 17 = .ok (.if_icmp .ge 44, 3) ∧ decode cX5_read 20 = .ok (.aload_n 0, 1) ∧ decode cX5_read 21 = .ok (.invokevirtual 34, 3) ∧ decode cX5_read 24 = .ok (.ifCond .ne 5, 3) ∧ decode cX5_read 27 = .ok (.iconst 0, 1) ∧ decode cX5_read 28 = .ok (.ireturn, 1) := by decide +kernel
theorem dX5_read_0 : Dc cX5_read 0 (.aload_n 0) 1 1 := ⟨DX5_read_c0.1, rfl⟩
theorem dX5_read_1 : Dc cX5_read 1 (.iconst 0) 1 2 := ⟨DX5_read_c0.2.1, rfl⟩
theorem dX5_read_2 : Dc cX5_read 2 (.putfield 28) 3 5 := ⟨DX5_read_c0.2.2.1, rfl⟩
theorem dX5_read_5 : Dc cX5_read 5 (.aload_n 0) 1 6 := ⟨DX5_read_c0.2.2.2.1, rfl⟩
theorem dX5_read_6 : Dc cX5_read 6 (.getfield 20) 3 9 := ⟨DX5_read_c0.2.2.2.2.1, rfl⟩
theorem dX5_read_9 : Dc cX5_read 9 (.invokevirtual 31) 3 12 := ⟨DX5_read_c0.2.2.2.2.2.1, rfl⟩
theorem dX5_read_12 : Dc cX5_read 12 (.iconst 0) 1 13 := ⟨DX5_read_c0.2.2.2.2.2.2.1, rfl⟩
theorem dX5_read_13 : Dc cX5_read 13 (.istore_n 1) 1 14 := ⟨DX5_read_c0.2.2.2.2.2.2.2.1, rfl⟩
theorem dX5_read_14 : Dc cX5_read 14 (.iload_n 1) 1 15 := ⟨DX5_read_c0.2.2.2.2.2.2.2.2.1, rfl⟩
theorem dX5_read_15 : Dc cX5_read 15 (.bipush 60) 2 17 := ⟨DX5_read_c0.2.2.2.2.2.2.2.2.2.1, rfl⟩
theorem dX5_read_17 : Db cX5_read 17 (fun o => .if_icmp .ge o) 20 61 := ⟨44, DX5_read_c0.2.2.2.2.2.2.2.2.2.2.1, rfl, rfl⟩
theorem dX5_read_20 : Dc cX5_read 20 (.aload_n 0) 1 21 := ⟨DX5_read_c0.2.2.2.2.2.2.2.2.2.2.2.1, rfl⟩
theorem dX5_read_21 : Dc cX5_read 21 (.invokevirtual 34) 3 24 := ⟨DX5_read_c0.2.2.2.2.2.2.2.2.2.2.2.2.1, rfl⟩
theorem dX5_read_24 : Db cX5_read 24 (fun o => .ifCond .ne o) 27 29 := ⟨5, DX5_read_c0.2.2.2.2.2.2.2.2.2.2.2.2.2.1, rfl, rfl⟩
theorem dX5_read_27 : Dc cX5_read 27 (.iconst 0) 1 28 := ⟨DX5_read_c0.2.2.2.2.2.2.2.2.2.2.2.2.2.2.1, rfl⟩
theorem dX5_read_28 : Dc cX5_read 28 (.ireturn) 1 29 := ⟨DX5_read_c0.2.2.2.2.2.2.2.2.2.2.2.2.2.2.2, rfl⟩
theorem DX5_read_c1 : decode cX5_read 29 = .ok (.aload_n 0, 1) ∧ decode cX5_read 30 = .ok (.bipush 59, 2) ∧ decode cX5_read 32 = .ok (.invokevirtual 38, 3) ∧ decode cX5_read 35 = .ok (.ifCond .ne 20, 3) ∧ decode cX5_read 38 = .ok (.aload_n 0, 1) ∧ decode cX5_read 39 = .ok (.getfield 28, 3) ∧ decode cX5_read 42 = .ok (.aload_n 0, 1) ∧ decode cX5_read 43 = .ok (.getfield 24, 3) ∧ decode cX5_read 46 = .ok (.if_icmp .ne 7, 3) ∧ decode cX5_read 49 = .ok (.iconst 1, 1) ∧ decode cX5_read 50 = .ok (.goto 4, 3) ∧ decode cX5_read 53 = .ok (.iconst 0, 1) ∧ decode cX5_read 54 = .ok (.ireturn, 1) ∧ decode cX5_read 55 = .ok (.iinc 1 1, 3) ∧ decode cX5_read 58 = .ok (.goto (-44), 3) ∧ decode cX5_read 61 = .ok (.iconst 0, 1) := by decide +kernel
theorem dX5_read_29 : Dc cX5_read 29 (.aload_n 0) 1 30 := ⟨DX5_read_c1.1, rfl⟩
theorem dX5_read_30 : Dc cX5_read 30 (.bipush 59) 2 32 := ⟨DX5_read_c1.2.1, rfl⟩
theorem dX5_read_32 : Dc cX5_read 32 (.invokevirtual 38) 3 35 := ⟨DX5_read_c1.2.2.1, rfl⟩
theorem dX5_read_35 : Db cX5_read 35 (fun o => .ifCond .ne o) 38 55 := ⟨20, DX5_read_c1.2.2.2.1, rfl, rfl⟩
theorem dX5_read_38 : Dc cX5_read 38 (.aload_n 0) 1 39 := ⟨DX5_read_c1.2.2.2.2.1, rfl⟩
theorem dX5_read_39 : Dc cX5_read 39 (.getfield 28) 3 42 := ⟨DX5_read_c1.2.2.2.2.2.1, rfl⟩
theorem dX5_read_42 : Dc cX5_read 42 (.aload_n 0) 1 43 := ⟨DX5_read_c1.2.2.2.2.2.2.1, rfl⟩
theorem dX5_read_43 : Dc cX5_read 43 (.getfield 24) 3 46 := ⟨DX5_read_c1.2.2.2.2.2.2.2.1, rfl⟩
theorem dX5_read_46 : Db cX5_read 46 (fun o => .if_icmp .ne o) 49 53 := ⟨7, DX5_read_c1.2.2.2.2.2.2.2.2.1, rfl, rfl⟩
theorem dX5_read_49 : Dc cX5_read 49 (.iconst 1) 1 50 := ⟨DX5_read_c1.2.2.2.2.2.2.2.2.2.1, rfl⟩
theorem dX5_read_50 : Db cX5_read 50 .goto 53 54 := ⟨4, DX5_read_c1.2.2.2.2.2.2.2.2.2.2.1, rfl, rfl⟩
theorem dX5_read_53 : Dc cX5_read 53 (.iconst 0) 1 54 := ⟨DX5_read_c1.2.2.2.2.2.2.2.2.2.2.2.1, rfl⟩
theorem dX5_read_54 : Dc cX5_read 54 (.ireturn) 1 55 := ⟨DX5_read_c1.2.2.2.2.2.2.2.2.2.2.2.2.1, rfl⟩
theorem dX5_read_55 : Dc cX5_read 55 (.iinc 1 1) 3 58 := ⟨DX5_read_c1.2.2.2.2.2.2.2.2.2.2.2.2.2.1, rfl⟩
theorem dX5_read_58 : Db cX5_read 58 .goto 61 14 := ⟨-44, DX5_read_c1.2.2.2.2.2.2.2.2.2.2.2.2.2.2.1, rfl, rfl⟩
theorem dX5_read_61 : Dc cX5_read 61 (.iconst 0) 1 62 := ⟨DX5_read_c1.2.2.2.2.2.2.2.2.2.2.2.2.2.2.2, rfl⟩
theorem DX5_read_c2 : decode cX5_read 62 = .ok (.ireturn, 1) := by decide +kernel
theorem dX5_read_62 : Dc cX5_read 62 (.ireturn) 1 63 := ⟨DX5_read_c2, rfl⟩
theorem DX5_readItem_c0 : decode cX5_readItem 0 = .ok (.aload_n 0, 1) ∧ decode cX5_readItem 1 = .ok (.getfield 20, 3) ∧ decode cX5_readItem 4 = .ok (.invokevirtual 42, 3) ∧ decode cX5_readItem 7 = .ok (.iconst 0, 1) ∧ decode cX5_readItem 8 = .ok (.istore_n 1, 1) ∧ decode cX5_readItem 9 = .ok (.aload_n 0, 1) ∧ decode cX5_readItem 10 = .ok (.invokevirtual 45, 3) ∧ decode cX5_readItem 13 = .ok (.invokestatic 49, 3) ∧ decode cX5_readItem 16 = .ok (.ifCond .ge 13, 3) ∧ decode cX5_readItem 19 = .ok (.aload_n 0, 1) ∧ decode cX5_readItem 20 = .ok (.iconst 0, 1) ∧ decode cX5_readItem 21 = .ok (.invokevirtual 53, 3) ∧ decode cX5_readItem 24 = .ok (.ifCond .ne 26, 3) ∧ decode cX5_readItem 27 = .ok (.iconst 0, 1) ∧ decode cX5_readItem 28 = .ok (.ireturn, 1) ∧ decode cX5_readItem 29 = .ok (.aload_n 0, 1) := by decide +kernel
theorem dX5_readItem_0 : Dc cX5_readItem 0 (.aload_n 0) 1 1 := ⟨DX5_readItem_c0.1, rfl⟩
theorem dX5_readItem_1 : Dc cX5_readItem 1 (.getfield 20) 3 4 := ⟨DX5_readItem_c0.2.1, rfl⟩
theorem dX5_readItem_4 : Dc cX5_readItem 4 (.invokevirtual 42) 3 7 := ⟨DX5_readItem_c0.2.2.1, rfl⟩
theorem dX5_readItem_7 : Dc cX5_readItem 7 (.iconst 0) 1 8 := ⟨DX5_readItem_c0.2.2.2.1, rfl⟩
theorem dX5_readItem_8 : Dc cX5_readItem 8 (.istore_n 1) 1 9 := ⟨DX5_readItem_c0.2.2.2.2.1, rfl⟩
theorem dX5_readItem_9 : Dc cX5_readItem 9 (.aload_n 0) 1 10 := ⟨DX5_readItem_c0.2.2.2.2.2.1, rfl⟩
theorem dX5_readItem_10 : Dc cX5_readItem 10 (.invokevirtual 45) 3 13 := ⟨DX5_readItem_c0.2.2.2.2.2.2.1, rfl⟩
theorem dX5_readItem_13 : Dc cX5_readItem 13 (.invokestatic 49) 3 16 := ⟨DX5_readItem_c0.2.2.2.2.2.2.2.1, rfl⟩
theorem dX5_readItem_16 : Db cX5_readItem 16 (fun o => .ifCond .ge o) 19 29 := ⟨13, DX5_readItem_c0.2.2.2.2.2.2.2.2.1, rfl, rfl⟩
theorem dX5_readItem_19 : Dc cX5_readItem 19 (.aload_n 0) 1 20 := ⟨DX5_readItem_c0.2.2.2.2.2.2.2.2.2.1, rfl⟩
theorem dX5_readItem_20 : Dc cX5_readItem 20 (.iconst 0) 1 21 := ⟨DX5_readItem_c0.2.2.2.2.2.2.2.2.2.2.1, rfl⟩
theorem dX5_readItem_21 : Dc cX5_readItem 21 (.invokevirtual 53) 3 24 := ⟨DX5_readItem_c0.2.2.2.2.2.2.2.2.2.2.2.1, rfl⟩
theorem dX5_readItem_24 : Db cX5_readItem 24 (fun o => .ifCond .ne o) 27 50 := ⟨26, DX5_readItem_c0.2.2.2.2.2.2.2.2.2.2.2.2.1, rfl, rfl⟩
theorem dX5_readItem_27 : Dc cX5_readItem 27 (.iconst 0) 1 28 := ⟨DX5_readItem_c0.2.2.2.2.2.2.2.2.2.2.2.2.2.1, rfl⟩
theorem dX5_readItem_28 : Dc cX5_readItem 28 (.ireturn) 1 29 := ⟨DX5_readItem_c0.2.2.2.2.2.2.2.2.2.2.2.2.2.2.1, rfl⟩
theorem dX5_readItem_29 : Dc cX5_readItem 29 (.aload_n 0) 1 30 := ⟨DX5_readItem_c0.2.2.2.2.2.2.2.2.2.2.2.2.2.2.2, rfl⟩
theorem DX5_readItem_c1 : decode cX5_readItem 30 = .ok (.iconst 2, 1) ∧ decode cX5_readItem 31 = .ok (.bipush 99, 2) ∧ decode cX5_readItem 33 = .ok (.invokevirtual 57, 3) ∧ decode cX5_readItem 36 = .ok (.istore_n 1, 1) ∧ decode cX5_readItem 37 = .ok (.iload_n 1, 1) ∧ decode cX5_readItem 38 = .ok (.ifCond .lt 10, 3) ∧ decode cX5_readItem 41 = .ok (.aload_n 0, 1) ∧ decode cX5_readItem 42 = .ok (.invokevirtual 61, 3) ∧ decode cX5_readItem 45 = .ok (.ifCond .ne 5, 3) ∧ decode cX5_readItem 48 = .ok (.iconst 0, 1) ∧ decode cX5_readItem 49 = .ok (.ireturn, 1) ∧ decode cX5_readItem 50 = .ok (.aload_n 0, 1) ∧ decode cX5_readItem 51 = .ok (.getfield 20, 3) ∧ decode cX5_readItem 54 = .ok (.iload_n 1, 1) ∧ decode cX5_readItem 55 = .ok (.invokevirtual 64, 3) ∧ decode cX5_readItem 58 = .ok (.pop, 1) := by decide +kernel
theorem dX5_readItem_30 : Dc cX5_readItem 30 (.iconst 2) 1 31 := ⟨DX5_readItem_c1.1, rfl⟩
theorem dX5_readItem_31 : Dc cX5_readItem 31 (.bipush 99) 2 33 := ⟨DX5_readItem_c1.2.1, rfl⟩
theorem dX5_readItem_33 : Dc cX5_readItem 33 (.invokevirtual 57) 3 36 := ⟨DX5_readItem_c1.2.2.1, rfl⟩
theorem dX5_readItem_36 : Dc cX5_readItem 36 (.istore_n 1) 1 37 := ⟨DX5_readItem_c1.2.2.2.1, rfl⟩
theorem dX5_readItem_37 : Dc cX5_readItem 37 (.iload_n 1) 1 38 := ⟨DX5_readItem_c1.2.2.2.2.1, rfl⟩
theorem dX5_readItem_38 : Db cX5_readItem 38 (fun o => .ifCond .lt o) 41 48 := ⟨10, DX5_readItem_c1.2.2.2.2.2.1, rfl, rfl⟩
theorem dX5_readItem_41 : Dc cX5_readItem 41 (.aload_n 0) 1 42 := ⟨DX5_readItem_c1.2.2.2.2.2.2.1, rfl⟩
theorem dX5_readItem_42 : Dc cX5_readItem 42 (.invokevirtual 61) 3 45 := ⟨DX5_readItem_c1.2.2.2.2.2.2.2.1, rfl⟩
theorem dX5_readItem_45 : Db cX5_readItem 45 (fun o => .ifCond .ne o) 48 50 := ⟨5, DX5_readItem_c1.2.2.2.2.2.2.2.2.1, rfl, rfl⟩
theorem dX5_readItem_48 : Dc cX5_readItem 48 (.iconst 0) 1 49 := ⟨DX5_readItem_c1.2.2.2.2.2.2.2.2.2.1, rfl⟩
theorem dX5_readItem_49 : Dc cX5_readItem 49 (.ireturn) 1 50 := ⟨DX5_readItem_c1.2.2.2.2.2.2.2.2.2.2.1, rfl⟩
theorem dX5_readItem_50 : Dc cX5_readItem 50 (.aload_n 0) 1 51 := ⟨DX5_readItem_c1.2.2.2.2.2.2.2.2.2.2.2.1, rfl⟩
theorem dX5_readItem_51 : Dc cX5_readItem 51 (.getfield 20) 3 54 := ⟨DX5_readItem_c1.2.2.2.2.2.2.2.2.2.2.2.2.1, rfl⟩
theorem dX5_readItem_54 : Dc cX5_readItem 54 (.iload_n 1) 1 55 := ⟨DX5_readItem_c1.2.2.2.2.2.2.2.2.2.2.2.2.2.1, rfl⟩
theorem dX5_readItem_55 : Dc cX5_readItem 55 (.invokevirtual 64) 3 58 := ⟨DX5_readItem_c1.2.2.2.2.2.2.2.2.2.2.2.2.2.2.1, rfl⟩
theorem dX5_readItem_58 : Dc cX5_readItem 58 (.pop) 1 59 := ⟨DX5_readItem_c1.2.2.2.2.2.2.2.2.2.2.2.2.2.2.2, rfl⟩
theorem DX5_readItem_c2 : decode cX5_readItem 59 = .ok (.iconst 1, 1) ∧ decode cX5_readItem 60 = .ok (.ireturn, 1) := by decide +kernel
theorem dX5_readItem_59 : Dc cX5_readItem 59 (.iconst 1) 1 60 := ⟨DX5_readItem_c2.1, rfl⟩
theorem dX5_readItem_60 : Dc cX5_readItem 60 (.ireturn) 1 61 := ⟨DX5_readItem_c2.2, rfl⟩
theorem DX5_readBody_c0 : decode cX5_readBody 0 = .ok (.aload_n 0, 1) ∧ decode cX5_readBody 1 = .ok (.bipush 40, 2) ∧ decode cX5_readBody 3 = .ok (.invokevirtual 38, 3) ∧ decode cX5_readBody 6 = .ok (.ifCond .ne 5, 3) ∧ decode cX5_readBody 9 = .ok (.iconst 0, 1) ∧ decode cX5_readBody 10 = .ok (.ireturn, 1) ∧ decode cX5_readBody 11 = .ok (.iconst 0, 1) ∧ decode cX5_readBody 12 = .ok (.istore_n 1, 1) ∧ decode cX5_readBody 13 = .ok (.iload_n 1, 1) ∧ decode cX5_readBody 14 = .ok (.bipush 60, 2) ∧ decode cX5_readBody 16 = .ok (.if_icmp .ge 35, 3) ∧ decode cX5_readBody 19 = .ok (.aload_n 0, 1) ∧ decode cX5_readBody 20 = .ok (.iconst 1, 1) ∧ decode cX5_readBody 21 = .ok (.invokevirtual 53, 3) ∧ decode cX5_readBody 24 = .ok (.ifCond .ne 5, 3) ∧ decode cX5_readBody 27 = .ok (.iconst 0, 1) := by decide +kernel
theorem dX5_readBody_0 : Dc cX5_readBody 0 (.aload_n 0) 1 1 := ⟨DX5_readBody_c0.1, rfl⟩
theorem dX5_readBody_1 : Dc cX5_readBody 1 (.bipush 40) 2 3 := ⟨DX5_readBody_c0.2.1, rfl⟩
theorem dX5_readBody_3 : Dc cX5_readBody 3 (.invokevirtual 38) 3 6 := ⟨DX5_readBody_c0.2.2.1, rfl⟩
theorem dX5_readBody_6 : Db cX5_readBody 6 (fun o => .ifCond .ne o) 9 11 := ⟨5, DX5_readBody_c0.2.2.2.1, rfl, rfl⟩
theorem dX5_readBody_9 : Dc cX5_readBody 9 (.iconst 0) 1 10 := ⟨DX5_readBody_c0.2.2.2.2.1, rfl⟩
theorem dX5_readBody_10 : Dc cX5_readBody 10 (.ireturn) 1 11 := ⟨DX5_readBody_c0.2.2.2.2.2.1, rfl⟩
theorem dX5_readBody_11 : Dc cX5_readBody 11 (.iconst 0) 1 12 := ⟨DX5_readBody_c0.2.2.2.2.2.2.1, rfl⟩
theorem dX5_readBody_12 : Dc cX5_readBody 12 (.istore_n 1) 1 13 := ⟨DX5_readBody_c0.2.2.2.2.2.2.2.1, rfl⟩
theorem dX5_readBody_13 : Dc cX5_readBody 13 (.iload_n 1) 1 14 := ⟨DX5_readBody_c0.2.2.2.2.2.2.2.2.1, rfl⟩
theorem dX5_readBody_14 : Dc cX5_readBody 14 (.bipush 60) 2 16 := ⟨DX5_readBody_c0.2.2.2.2.2.2.2.2.2.1, rfl⟩
theorem dX5_readBody_16 : Db cX5_readBody 16 (fun o => .if_icmp .ge o) 19 51 := ⟨35, DX5_readBody_c0.2.2.2.2.2.2.2.2.2.2.1, rfl, rfl⟩
theorem dX5_readBody_19 : Dc cX5_readBody 19 (.aload_n 0) 1 20 := ⟨DX5_readBody_c0.2.2.2.2.2.2.2.2.2.2.2.1, rfl⟩
theorem dX5_readBody_20 : Dc cX5_readBody 20 (.iconst 1) 1 21 := ⟨DX5_readBody_c0.2.2.2.2.2.2.2.2.2.2.2.2.1, rfl⟩
theorem dX5_readBody_21 : Dc cX5_readBody 21 (.invokevirtual 53) 3 24 := ⟨DX5_readBody_c0.2.2.2.2.2.2.2.2.2.2.2.2.2.1, rfl⟩
theorem dX5_readBody_24 : Db cX5_readBody 24 (fun o => .ifCond .ne o) 27 29 := ⟨5, DX5_readBody_c0.2.2.2.2.2.2.2.2.2.2.2.2.2.2.1, rfl, rfl⟩
theorem dX5_readBody_27 : Dc cX5_readBody 27 (.iconst 0) 1 28 := ⟨DX5_readBody_c0.2.2.2.2.2.2.2.2.2.2.2.2.2.2.2, rfl⟩
theorem DX5_readBody_c1 : decode cX5_readBody 28 = .ok (.ireturn, 1) ∧ decode cX5_readBody 29 = .ok (.aload_n 0, 1) ∧ decode cX5_readBody 30 = .ok (.bipush 44, 2) ∧ decode cX5_readBody 32 = .ok (.invokevirtual 38, 3) ∧ decode cX5_readBody 35 = .ok (.ifCond .ne 10, 3) ∧ decode cX5_readBody 38 = .ok (.aload_n 0, 1) ∧ decode cX5_readBody 39 = .ok (.bipush 41, 2) ∧ decode cX5_readBody 41 = .ok (.invokevirtual 38, 3) ∧ decode cX5_readBody 44 = .ok (.ireturn, 1) ∧ decode cX5_readBody 45 = .ok (.iinc 1 1, 3) ∧ decode cX5_readBody 48 = .ok (.goto (-35), 3) ∧ decode cX5_readBody 51 = .ok (.iconst 0, 1) ∧ decode cX5_readBody 52 = .ok (.ireturn, 1) := by decide +kernel
theorem dX5_readBody_28 : Dc cX5_readBody 28 (.ireturn) 1 29 := ⟨DX5_readBody_c1.1, rfl⟩
theorem dX5_readBody_29 : Dc cX5_readBody 29 (.aload_n 0) 1 30 := ⟨DX5_readBody_c1.2.1, rfl⟩
theorem dX5_readBody_30 : Dc cX5_readBody 30 (.bipush 44) 2 32 := ⟨DX5_readBody_c1.2.2.1, rfl⟩
theorem dX5_readBody_32 : Dc cX5_readBody 32 (.invokevirtual 38) 3 35 := ⟨DX5_readBody_c1.2.2.2.1, rfl⟩
theorem dX5_readBody_35 : Db cX5_readBody 35 (fun o => .ifCond .ne o) 38 45 := ⟨10, DX5_readBody_c1.2.2.2.2.1, rfl, rfl⟩
theorem dX5_readBody_38 : Dc cX5_readBody 38 (.aload_n 0) 1 39 := ⟨DX5_readBody_c1.2.2.2.2.2.1, rfl⟩
theorem dX5_readBody_39 : Dc cX5_readBody 39 (.bipush 41) 2 41 := ⟨DX5_readBody_c1.2.2.2.2.2.2.1, rfl⟩
theorem dX5_readBody_41 : Dc cX5_readBody 41 (.invokevirtual 38) 3 44 := ⟨DX5_readBody_c1.2.2.2.2.2.2.2.1, rfl⟩
theorem dX5_readBody_44 : Dc cX5_readBody 44 (.ireturn) 1 45 := ⟨DX5_readBody_c1.2.2.2.2.2.2.2.2.1, rfl⟩
theorem dX5_readBody_45 : Dc cX5_readBody 45 (.iinc 1 1) 3 48 := ⟨DX5_readBody_c1.2.2.2.2.2.2.2.2.2.1, rfl⟩
theorem dX5_readBody_48 : Db cX5_readBody 48 .goto 51 13 := ⟨-35, DX5_readBody_c1.2.2.2.2.2.2.2.2.2.2.1, rfl, rfl⟩
theorem dX5_readBody_51 : Dc cX5_readBody 51 (.iconst 0) 1 52 := ⟨DX5_readBody_c1.2.2.2.2.2.2.2.2.2.2.2.1, rfl⟩
theorem dX5_readBody_52 : Dc cX5_readBody 52 (.ireturn) 1 53 := ⟨DX5_readBody_c1.2.2.2.2.2.2.2.2.2.2.2.2, rfl⟩
theorem DX5_readStep_c0 : decode cX5_readStep 0 = .ok (.ldc 68, 2) ∧ decode cX5_readStep 2 = .ok (.aload_n 0, 1) ∧ decode cX5_readStep 3 = .ok (.invokevirtual 45, 3) ∧ decode cX5_readStep 6 = .ok (.invokevirtual 70, 3) ∧ decode cX5_readStep 9 = .ok (.istore_n 2, 1) ∧ decode cX5_readStep 10 = .ok (.iload_n 2, 1) ∧ decode cX5_readStep 11 = .ok (.ifCond .ge 5, 3) ∧ decode cX5_readStep 14 = .ok (.iconst 0, 1) ∧ decode cX5_readStep 15 = .ok (.ireturn, 1) ∧ decode cX5_readStep 16 = .ok (.aload_n 0, 1) ∧ decode cX5_readStep 17 = .ok (.dup, 1) ∧ decode cX5_readStep 18 = .ok (.getfield 28, 3) ∧ decode cX5_readStep 21 = .ok (.iconst 1, 1) ∧ decode cX5_readStep 22 = .ok (.iadd, 1) ∧ decode cX5_readStep 23 = .ok (.putfield 28, 3) ∧ decode cX5_readStep 26 = .ok (.aload_n 0, 1) := by decide +kernel
theorem dX5_readStep_0 : Dc cX5_readStep 0 (.ldc 68) 2 2 := ⟨DX5_readStep_c0.1, rfl⟩
theorem dX5_readStep_2 : Dc cX5_readStep 2 (.aload_n 0) 1 3 := ⟨DX5_readStep_c0.2.1, rfl⟩
theorem dX5_readStep_3 : Dc cX5_readStep 3 (.invokevirtual 45) 3 6 := ⟨DX5_readStep_c0.2.2.1, rfl⟩
theorem dX5_readStep_6 : Dc cX5_readStep 6 (.invokevirtual 70) 3 9 := ⟨DX5_readStep_c0.2.2.2.1, rfl⟩
theorem dX5_readStep_9 : Dc cX5_readStep 9 (.istore_n 2) 1 10 := ⟨DX5_readStep_c0.2.2.2.2.1, rfl⟩
theorem dX5_readStep_10 : Dc cX5_readStep 10 (.iload_n 2) 1 11 := ⟨DX5_readStep_c0.2.2.2.2.2.1, rfl⟩
theorem dX5_readStep_11 : Db cX5_readStep 11 (fun o => .ifCond .ge o) 14 16 := ⟨5, DX5_readStep_c0.2.2.2.2.2.2.1, rfl, rfl⟩
theorem dX5_readStep_14 : Dc cX5_readStep 14 (.iconst 0) 1 15 := ⟨DX5_readStep_c0.2.2.2.2.2.2.2.1, rfl⟩
theorem dX5_readStep_15 : Dc cX5_readStep 15 (.ireturn) 1 16 := ⟨DX5_readStep_c0.2.2.2.2.2.2.2.2.1, rfl⟩
theorem dX5_readStep_16 : Dc cX5_readStep 16 (.aload_n 0) 1 17 := ⟨DX5_readStep_c0.2.2.2.2.2.2.2.2.2.1, rfl⟩
theorem dX5_readStep_17 : Dc cX5_readStep 17 (.dup) 1 18 := ⟨DX5_readStep_c0.2.2.2.2.2.2.2.2.2.2.1, rfl⟩
theorem dX5_readStep_18 : Dc cX5_readStep 18 (.getfield 28) 3 21 := ⟨DX5_readStep_c0.2.2.2.2.2.2.2.2.2.2.2.1, rfl⟩
theorem dX5_readStep_21 : Dc cX5_readStep 21 (.iconst 1) 1 22 := ⟨DX5_readStep_c0.2.2.2.2.2.2.2.2.2.2.2.2.1, rfl⟩
theorem dX5_readStep_22 : Dc cX5_readStep 22 (.iadd) 1 23 := ⟨DX5_readStep_c0.2.2.2.2.2.2.2.2.2.2.2.2.2.1, rfl⟩
theorem dX5_readStep_23 : Dc cX5_readStep 23 (.putfield 28) 3 26 := ⟨DX5_readStep_c0.2.2.2.2.2.2.2.2.2.2.2.2.2.2.1, rfl⟩
theorem dX5_readStep_26 : Dc cX5_readStep 26 (.aload_n 0) 1 27 := ⟨DX5_readStep_c0.2.2.2.2.2.2.2.2.2.2.2.2.2.2.2, rfl⟩
theorem DX5_readStep_c1 : decode cX5_readStep 27 = .ok (.iconst 0, 1) ∧ decode cX5_readStep 28 = .ok (.iload_n 2, 1) ∧ decode cX5_readStep 29 = .ok (.invokestatic 75, 3) ∧ decode cX5_readStep 32 = .ok (.invokevirtual 57, 3) ∧ decode cX5_readStep 35 = .ok (.istore_n 3, 1) ∧ decode cX5_readStep 36 = .ok (.iload_n 3, 1) ∧ decode cX5_readStep 37 = .ok (.ifCond .ge 5, 3) ∧ decode cX5_readStep 40 = .ok (.iconst 0, 1) ∧ decode cX5_readStep 41 = .ok (.ireturn, 1) ∧ decode cX5_readStep 42 = .ok (.iconst 0, 1) ∧ decode cX5_readStep 43 = .ok (.istore 4, 2) ∧ decode cX5_readStep 45 = .ok (.iload_n 1, 1) ∧ decode cX5_readStep 46 = .ok (.ifCond .eq 70, 3) ∧ decode cX5_readStep 49 = .ok (.aload_n 0, 1) ∧ decode cX5_readStep 50 = .ok (.invokevirtual 45, 3) ∧ decode cX5_readStep 53 = .ok (.bipush 43, 2) := by decide +kernel
theorem dX5_readStep_27 : Dc cX5_readStep 27 (.iconst 0) 1 28 := ⟨DX5_readStep_c1.1, rfl⟩
theorem dX5_readStep_28 : Dc cX5_readStep 28 (.iload_n 2) 1 29 := ⟨DX5_readStep_c1.2.1, rfl⟩
theorem dX5_readStep_29 : Dc cX5_readStep 29 (.invokestatic 75) 3 32 := ⟨DX5_readStep_c1.2.2.1, rfl⟩
theorem dX5_readStep_32 : Dc cX5_readStep 32 (.invokevirtual 57) 3 35 := ⟨DX5_readStep_c1.2.2.2.1, rfl⟩
theorem dX5_readStep_35 : Dc cX5_readStep 35 (.istore_n 3) 1 36 := ⟨DX5_readStep_c1.2.2.2.2.1, rfl⟩
theorem dX5_readStep_36 : Dc cX5_readStep 36 (.iload_n 3) 1 37 := ⟨DX5_readStep_c1.2.2.2.2.2.1, rfl⟩
theorem dX5_readStep_37 : Db cX5_readStep 37 (fun o => .ifCond .ge o) 40 42 := ⟨5, DX5_readStep_c1.2.2.2.2.2.2.1, rfl, rfl⟩
theorem dX5_readStep_40 : Dc cX5_readStep 40 (.iconst 0) 1 41 := ⟨DX5_readStep_c1.2.2.2.2.2.2.2.1, rfl⟩
theorem dX5_readStep_41 : Dc cX5_readStep 41 (.ireturn) 1 42 := ⟨DX5_readStep_c1.2.2.2.2.2.2.2.2.1, rfl⟩
theorem dX5_readStep_42 : Dc cX5_readStep 42 (.iconst 0) 1 43 := ⟨DX5_readStep_c1.2.2.2.2.2.2.2.2.2.1, rfl⟩
theorem dX5_readStep_43 : Dc cX5_readStep 43 (.istore 4) 2 45 := ⟨DX5_readStep_c1.2.2.2.2.2.2.2.2.2.2.1, rfl⟩
theorem dX5_readStep_45 : Dc cX5_readStep 45 (.iload_n 1) 1 46 := ⟨DX5_readStep_c1.2.2.2.2.2.2.2.2.2.2.2.1, rfl⟩
theorem dX5_readStep_46 : Db cX5_readStep 46 (fun o => .ifCond .eq o) 49 116 := ⟨70, DX5_readStep_c1.2.2.2.2.2.2.2.2.2.2.2.2.1, rfl, rfl⟩
theorem dX5_readStep_49 : Dc cX5_readStep 49 (.aload_n 0) 1 50 := ⟨DX5_readStep_c1.2.2.2.2.2.2.2.2.2.2.2.2.2.1, rfl⟩
theorem dX5_readStep_50 : Dc cX5_readStep 50 (.invokevirtual 45) 3 53 := ⟨DX5_readStep_c1.2.2.2.2.2.2.2.2.2.2.2.2.2.2.1, rfl⟩
theorem dX5_readStep_53 : Dc cX5_readStep 53 (.bipush 43) 2 55 := ⟨DX5_readStep_c1.2.2.2.2.2.2.2.2.2.2.2.2.2.2.2, rfl⟩
theorem DX5_readStep_c2 : decode cX5_readStep 55 = .ok (.if_icmp .eq 12, 3) ∧ decode cX5_readStep 58 = .ok (.aload_n 0, 1) ∧ decode cX5_readStep 59 = .ok (.invokevirtual 45, 3) ∧ decode cX5_readStep 62 = .ok (.bipush 45, 2) ∧ decode cX5_readStep 64 = .ok (.if_icmp .ne 52, 3) ∧ decode cX5_readStep 67 = .ok (.aload_n 0, 1) ∧ decode cX5_readStep 68 = .ok (.invokevirtual 45, 3) ∧ decode cX5_readStep 71 = .ok (.bipush 43, 2) ∧ decode cX5_readStep 73 = .ok (.if_icmp .ne 7, 3) ∧ decode cX5_readStep 76 = .ok (.iconst 1, 1) ∧ decode cX5_readStep 77 = .ok (.goto 4, 3) ∧ decode cX5_readStep 80 = .ok (.iconst (-1), 1) ∧ decode cX5_readStep 81 = .ok (.istore 5, 2) ∧ decode cX5_readStep 83 = .ok (.aload_n 0, 1) ∧ decode cX5_readStep 84 = .ok (.dup, 1) ∧ decode cX5_readStep 85 = .ok (.getfield 28, 3) := by decide +kernel
theorem dX5_readStep_55 : Db cX5_readStep 55 (fun o => .if_icmp .eq o) 58 67 := ⟨12, DX5_readStep_c2.1, rfl, rfl⟩
theorem dX5_readStep_58 : Dc cX5_readStep 58 (.aload_n 0) 1 59 := ⟨DX5_readStep_c2.2.1, rfl⟩
theorem dX5_readStep_59 : Dc cX5_readStep 59 (.invokevirtual 45) 3 62 := ⟨DX5_readStep_c2.2.2.1, rfl⟩
theorem dX5_readStep_62 : Dc cX5_readStep 62 (.bipush 45) 2 64 := ⟨DX5_readStep_c2.2.2.2.1, rfl⟩
theorem dX5_readStep_64 : Db cX5_readStep 64 (fun o => .if_icmp .ne o) 67 116 := ⟨52, DX5_readStep_c2.2.2.2.2.1, rfl, rfl⟩
theorem dX5_readStep_67 : Dc cX5_readStep 67 (.aload_n 0) 1 68 := ⟨DX5_readStep_c2.2.2.2.2.2.1, rfl⟩
theorem dX5_readStep_68 : Dc cX5_readStep 68 (.invokevirtual 45) 3 71 := ⟨DX5_readStep_c2.2.2.2.2.2.2.1, rfl⟩
theorem dX5_readStep_71 : Dc cX5_readStep 71 (.bipush 43) 2 73 := ⟨DX5_readStep_c2.2.2.2.2.2.2.2.1, rfl⟩
theorem dX5_readStep_73 : Db cX5_readStep 73 (fun o => .if_icmp .ne o) 76 80 := ⟨7, DX5_readStep_c2.2.2.2.2.2.2.2.2.1, rfl, rfl⟩
theorem dX5_readStep_76 : Dc cX5_readStep 76 (.iconst 1) 1 77 := ⟨DX5_readStep_c2.2.2.2.2.2.2.2.2.2.1, rfl⟩
theorem dX5_readStep_77 : Db cX5_readStep 77 .goto 80 81 := ⟨4, DX5_readStep_c2.2.2.2.2.2.2.2.2.2.2.1, rfl, rfl⟩
theorem dX5_readStep_80 : Dc cX5_readStep 80 (.iconst (-1)) 1 81 := ⟨DX5_readStep_c2.2.2.2.2.2.2.2.2.2.2.2.1, rfl⟩
theorem dX5_readStep_81 : Dc cX5_readStep 81 (.istore 5) 2 83 := ⟨DX5_readStep_c2.2.2.2.2.2.2.2.2.2.2.2.2.1, rfl⟩
theorem dX5_readStep_83 : Dc cX5_readStep 83 (.aload_n 0) 1 84 := ⟨DX5_readStep_c2.2.2.2.2.2.2.2.2.2.2.2.2.2.1, rfl⟩
theorem dX5_readStep_84 : Dc cX5_readStep 84 (.dup) 1 85 := ⟨DX5_readStep_c2.2.2.2.2.2.2.2.2.2.2.2.2.2.2.1, rfl⟩
theorem dX5_readStep_85 : Dc cX5_readStep 85 (.getfield 28) 3 88 := ⟨DX5_readStep_c2.2.2.2.2.2.2.2.2.2.2.2.2.2.2.2, rfl⟩
theorem DX5_readStep_c3 : decode cX5_readStep 88 = .ok (.iconst 1, 1) ∧ decode cX5_readStep 89 = .ok (.iadd, 1) ∧ decode cX5_readStep 90 = .ok (.putfield 28, 3) ∧ decode cX5_readStep 93 = .ok (.aload_n 0, 1) ∧ decode cX5_readStep 94 = .ok (.iconst 1, 1) ∧ decode cX5_readStep 95 = .ok (.bipush 99, 2) ∧ decode cX5_readStep 97 = .ok (.invokevirtual 57, 3) ∧ decode cX5_readStep 100 = .ok (.istore 6, 2) ∧ decode cX5_readStep 102 = .ok (.iload 6, 2) ∧ decode cX5_readStep 104 = .ok (.ifCond .ge 5, 3) ∧ decode cX5_readStep 107 = .ok (.iconst 0, 1) ∧ decode cX5_readStep 108 = .ok (.ireturn, 1) ∧ decode cX5_readStep 109 = .ok (.iload 5, 2) ∧ decode cX5_readStep 111 = .ok (.iload 6, 2) ∧ decode cX5_readStep 113 = .ok (.imul, 1) ∧ decode cX5_readStep 114 = .ok (.istore 4, 2) := by decide +kernel
theorem dX5_readStep_88 : Dc cX5_readStep 88 (.iconst 1) 1 89 := ⟨DX5_readStep_c3.1, rfl⟩
theorem dX5_readStep_89 : Dc cX5_readStep 89 (.iadd) 1 90 := ⟨DX5_readStep_c3.2.1, rfl⟩
theorem dX5_readStep_90 : Dc cX5_readStep 90 (.putfield 28) 3 93 := ⟨DX5_readStep_c3.2.2.1, rfl⟩
theorem dX5_readStep_93 : Dc cX5_readStep 93 (.aload_n 0) 1 94 := ⟨DX5_readStep_c3.2.2.2.1, rfl⟩
theorem dX5_readStep_94 : Dc cX5_readStep 94 (.iconst 1) 1 95 := ⟨DX5_readStep_c3.2.2.2.2.1, rfl⟩
theorem dX5_readStep_95 : Dc cX5_readStep 95 (.bipush 99) 2 97 := ⟨DX5_readStep_c3.2.2.2.2.2.1, rfl⟩
theorem dX5_readStep_97 : Dc cX5_readStep 97 (.invokevirtual 57) 3 100 := ⟨DX5_readStep_c3.2.2.2.2.2.2.1, rfl⟩
theorem dX5_readStep_100 : Dc cX5_readStep 100 (.istore 6) 2 102 := ⟨DX5_readStep_c3.2.2.2.2.2.2.2.1, rfl⟩
theorem dX5_readStep_102 : Dc cX5_readStep 102 (.iload 6) 2 104 := ⟨DX5_readStep_c3.2.2.2.2.2.2.2.2.1, rfl⟩
theorem dX5_readStep_104 : Db cX5_readStep 104 (fun o => .ifCond .ge o) 107 109 := ⟨5, DX5_readStep_c3.2.2.2.2.2.2.2.2.2.1, rfl, rfl⟩
theorem dX5_readStep_107 : Dc cX5_readStep 107 (.iconst 0) 1 108 := ⟨DX5_readStep_c3.2.2.2.2.2.2.2.2.2.2.1, rfl⟩
theorem dX5_readStep_108 : Dc cX5_readStep 108 (.ireturn) 1 109 := ⟨DX5_readStep_c3.2.2.2.2.2.2.2.2.2.2.2.1, rfl⟩
theorem dX5_readStep_109 : Dc cX5_readStep 109 (.iload 5) 2 111 := ⟨DX5_readStep_c3.2.2.2.2.2.2.2.2.2.2.2.2.1, rfl⟩
theorem dX5_readStep_111 : Dc cX5_readStep 111 (.iload 6) 2 113 := ⟨DX5_readStep_c3.2.2.2.2.2.2.2.2.2.2.2.2.2.1, rfl⟩
theorem dX5_readStep_113 : Dc cX5_readStep 113 (.imul) 1 114 := ⟨DX5_readStep_c3.2.2.2.2.2.2.2.2.2.2.2.2.2.2.1, rfl⟩
theorem dX5_readStep_114 : Dc cX5_readStep 114 (.istore 4) 2 116 := ⟨DX5_readStep_c3.2.2.2.2.2.2.2.2.2.2.2.2.2.2.2, rfl⟩
theorem DX5_readStep_c4 : decode cX5_readStep 116 = .ok (.aload_n 0, 1) ∧ decode cX5_readStep 117 = .ok (.getfield 20, 3) ∧ decode cX5_readStep 120 = .ok (.aload_n 0, 1) ∧ decode cX5_readStep 121 = .ok (.getfield 20, 3) ∧ decode cX5_readStep 124 = .ok (.getfield 78, 3) ∧ decode cX5_readStep 127 = .ok (.iload_n 2, 1) ∧ decode cX5_readStep 128 = .ok (.iload_n 3, 1) ∧ decode cX5_readStep 129 = .ok (.iload 4, 2) ∧ decode cX5_readStep 131 = .ok (.invokevirtual 81, 3) ∧ decode cX5_readStep 134 = .ok (.iconst 1, 1) ∧ decode cX5_readStep 135 = .ok (.ireturn, 1) := by decide +kernel
theorem dX5_readStep_116 : Dc cX5_readStep 116 (.aload_n 0) 1 117 := ⟨DX5_readStep_c4.1, rfl⟩
theorem dX5_readStep_117 : Dc cX5_readStep 117 (.getfield 20) 3 120 := ⟨DX5_readStep_c4.2.1, rfl⟩
theorem dX5_readStep_120 : Dc cX5_readStep 120 (.aload_n 0) 1 121 := ⟨DX5_readStep_c4.2.2.1, rfl⟩
theorem dX5_readStep_121 : Dc cX5_readStep 121 (.getfield 20) 3 124 := ⟨DX5_readStep_c4.2.2.2.1, rfl⟩
theorem dX5_readStep_124 : Dc cX5_readStep 124 (.getfield 78) 3 127 := ⟨DX5_readStep_c4.2.2.2.2.1, rfl⟩
theorem dX5_readStep_127 : Dc cX5_readStep 127 (.iload_n 2) 1 128 := ⟨DX5_readStep_c4.2.2.2.2.2.1, rfl⟩
theorem dX5_readStep_128 : Dc cX5_readStep 128 (.iload_n 3) 1 129 := ⟨DX5_readStep_c4.2.2.2.2.2.2.1, rfl⟩
theorem dX5_readStep_129 : Dc cX5_readStep 129 (.iload 4) 2 131 := ⟨DX5_readStep_c4.2.2.2.2.2.2.2.1, rfl⟩
theorem dX5_readStep_131 : Dc cX5_readStep 131 (.invokevirtual 81) 3 134 := ⟨DX5_readStep_c4.2.2.2.2.2.2.2.2.1, rfl⟩
theorem dX5_readStep_134 : Dc cX5_readStep 134 (.iconst 1) 1 135 := ⟨DX5_readStep_c4.2.2.2.2.2.2.2.2.2.1, rfl⟩
theorem dX5_readStep_135 : Dc cX5_readStep 135 (.ireturn) 1 136 := ⟨DX5_readStep_c4.2.2.2.2.2.2.2.2.2.2, rfl⟩
theorem DX5_readNumber_c0 : decode cX5_readNumber 0 = .ok (.aload_n 0, 1) ∧ decode cX5_readNumber 1 = .ok (.invokevirtual 45, 3) ∧ decode cX5_readNumber 4 = .ok (.invokestatic 49, 3) ∧ decode cX5_readNumber 7 = .ok (.istore_n 3, 1) ∧ decode cX5_readNumber 8 = .ok (.iload_n 3, 1) ∧ decode cX5_readNumber 9 = .ok (.ifCond .lt 11, 3) ∧ decode cX5_readNumber 12 = .ok (.iload_n 3, 1) ∧ decode cX5_readNumber 13 = .ok (.ifCond .ne 9, 3) ∧ decode cX5_readNumber 16 = .ok (.iload_n 1, 1) ∧ decode cX5_readNumber 17 = .ok (.ifCond .le 5, 3) ∧ decode cX5_readNumber 20 = .ok (.iconst (-1), 1) ∧ decode cX5_readNumber 21 = .ok (.ireturn, 1) ∧ decode cX5_readNumber 22 = .ok (.aload_n 0, 1) ∧ decode cX5_readNumber 23 = .ok (.dup, 1) ∧ decode cX5_readNumber 24 = .ok (.getfield 28, 3) ∧ decode cX5_readNumber 27 = .ok (.iconst 1, 1) := by decide +kernel
theorem dX5_readNumber_0 : Dc cX5_readNumber 0 (.aload_n 0) 1 1 := ⟨DX5_readNumber_c0.1, rfl⟩
theorem dX5_readNumber_1 : Dc cX5_readNumber 1 (.invokevirtual 45) 3 4 := ⟨DX5_readNumber_c0.2.1, rfl⟩
theorem dX5_readNumber_4 : Dc cX5_readNumber 4 (.invokestatic 49) 3 7 := ⟨DX5_readNumber_c0.2.2.1, rfl⟩
theorem dX5_readNumber_7 : Dc cX5_readNumber 7 (.istore_n 3) 1 8 := ⟨DX5_readNumber_c0.2.2.2.1, rfl⟩
theorem dX5_readNumber_8 : Dc cX5_readNumber 8 (.iload_n 3) 1 9 := ⟨DX5_readNumber_c0.2.2.2.2.1, rfl⟩
theorem dX5_readNumber_9 : Db cX5_readNumber 9 (fun o => .ifCond .lt o) 12 20 := ⟨11, DX5_readNumber_c0.2.2.2.2.2.1, rfl, rfl⟩
theorem dX5_readNumber_12 : Dc cX5_readNumber 12 (.iload_n 3) 1 13 := ⟨DX5_readNumber_c0.2.2.2.2.2.2.1, rfl⟩
theorem dX5_readNumber_13 : Db cX5_readNumber 13 (fun o => .ifCond .ne o) 16 22 := ⟨9, DX5_readNumber_c0.2.2.2.2.2.2.2.1, rfl, rfl⟩
theorem dX5_readNumber_16 : Dc cX5_readNumber 16 (.iload_n 1) 1 17 := ⟨DX5_readNumber_c0.2.2.2.2.2.2.2.2.1, rfl⟩
theorem dX5_readNumber_17 : Db cX5_readNumber 17 (fun o => .ifCond .le o) 20 22 := ⟨5, DX5_readNumber_c0.2.2.2.2.2.2.2.2.2.1, rfl, rfl⟩
theorem dX5_readNumber_20 : Dc cX5_readNumber 20 (.iconst (-1)) 1 21 := ⟨DX5_readNumber_c0.2.2.2.2.2.2.2.2.2.2.1, rfl⟩
theorem dX5_readNumber_21 : Dc cX5_readNumber 21 (.ireturn) 1 22 := ⟨DX5_readNumber_c0.2.2.2.2.2.2.2.2.2.2.2.1, rfl⟩
theorem dX5_readNumber_22 : Dc cX5_readNumber 22 (.aload_n 0) 1 23 := ⟨DX5_readNumber_c0.2.2.2.2.2.2.2.2.2.2.2.2.1, rfl⟩
theorem dX5_readNumber_23 : Dc cX5_readNumber 23 (.dup) 1 24 := ⟨DX5_readNumber_c0.2.2.2.2.2.2.2.2.2.2.2.2.2.1, rfl⟩
theorem dX5_readNumber_24 : Dc cX5_readNumber 24 (.getfield 28) 3 27 := ⟨DX5_readNumber_c0.2.2.2.2.2.2.2.2.2.2.2.2.2.2.1, rfl⟩
theorem dX5_readNumber_27 : Dc cX5_readNumber 27 (.iconst 1) 1 28 := ⟨DX5_readNumber_c0.2.2.2.2.2.2.2.2.2.2.2.2.2.2.2, rfl⟩
theorem DX5_readNumber_c1 : decode cX5_readNumber 28 = .ok (.iadd, 1) ∧ decode cX5_readNumber 29 = .ok (.putfield 28, 3) ∧ decode cX5_readNumber 32 = .ok (.aload_n 0, 1) ∧ decode cX5_readNumber 33 = .ok (.invokevirtual 45, 3) ∧ decode cX5_readNumber 36 = .ok (.invokestatic 49, 3) ∧ decode cX5_readNumber 39 = .ok (.istore 4, 2) ∧ decode cX5_readNumber 41 = .ok (.iload_n 3, 1) ∧ decode cX5_readNumber 42 = .ok (.ifCond .le 37, 3) ∧ decode cX5_readNumber 45 = .ok (.iload 4, 2) ∧ decode cX5_readNumber 47 = .ok (.ifCond .lt 32, 3) ∧ decode cX5_readNumber 50 = .ok (.bipush 10, 2) ∧ decode cX5_readNumber 52 = .ok (.iload_n 3, 1) ∧ decode cX5_readNumber 53 = .ok (.imul, 1) ∧ decode cX5_readNumber 54 = .ok (.iload 4, 2) ∧ decode cX5_readNumber 56 = .ok (.iadd, 1) ∧ decode cX5_readNumber 57 = .ok (.iload_n 2, 1) := by decide +kernel
theorem dX5_readNumber_28 : Dc cX5_readNumber 28 (.iadd) 1 29 := ⟨DX5_readNumber_c1.1, rfl⟩
theorem dX5_readNumber_29 : Dc cX5_readNumber 29 (.putfield 28) 3 32 := ⟨DX5_readNumber_c1.2.1, rfl⟩
theorem dX5_readNumber_32 : Dc cX5_readNumber 32 (.aload_n 0) 1 33 := ⟨DX5_readNumber_c1.2.2.1, rfl⟩
theorem dX5_readNumber_33 : Dc cX5_readNumber 33 (.invokevirtual 45) 3 36 := ⟨DX5_readNumber_c1.2.2.2.1, rfl⟩
theorem dX5_readNumber_36 : Dc cX5_readNumber 36 (.invokestatic 49) 3 39 := ⟨DX5_readNumber_c1.2.2.2.2.1, rfl⟩
theorem dX5_readNumber_39 : Dc cX5_readNumber 39 (.istore 4) 2 41 := ⟨DX5_readNumber_c1.2.2.2.2.2.1, rfl⟩
theorem dX5_readNumber_41 : Dc cX5_readNumber 41 (.iload_n 3) 1 42 := ⟨DX5_readNumber_c1.2.2.2.2.2.2.1, rfl⟩
theorem dX5_readNumber_42 : Db cX5_readNumber 42 (fun o => .ifCond .le o) 45 79 := ⟨37, DX5_readNumber_c1.2.2.2.2.2.2.2.1, rfl, rfl⟩
theorem dX5_readNumber_45 : Dc cX5_readNumber 45 (.iload 4) 2 47 := ⟨DX5_readNumber_c1.2.2.2.2.2.2.2.2.1, rfl⟩
theorem dX5_readNumber_47 : Db cX5_readNumber 47 (fun o => .ifCond .lt o) 50 79 := ⟨32, DX5_readNumber_c1.2.2.2.2.2.2.2.2.2.1, rfl, rfl⟩
theorem dX5_readNumber_50 : Dc cX5_readNumber 50 (.bipush 10) 2 52 := ⟨DX5_readNumber_c1.2.2.2.2.2.2.2.2.2.2.1, rfl⟩
theorem dX5_readNumber_52 : Dc cX5_readNumber 52 (.iload_n 3) 1 53 := ⟨DX5_readNumber_c1.2.2.2.2.2.2.2.2.2.2.2.1, rfl⟩
theorem dX5_readNumber_53 : Dc cX5_readNumber 53 (.imul) 1 54 := ⟨DX5_readNumber_c1.2.2.2.2.2.2.2.2.2.2.2.2.1, rfl⟩
theorem dX5_readNumber_54 : Dc cX5_readNumber 54 (.iload 4) 2 56 := ⟨DX5_readNumber_c1.2.2.2.2.2.2.2.2.2.2.2.2.2.1, rfl⟩
theorem dX5_readNumber_56 : Dc cX5_readNumber 56 (.iadd) 1 57 := ⟨DX5_readNumber_c1.2.2.2.2.2.2.2.2.2.2.2.2.2.2.1, rfl⟩
theorem dX5_readNumber_57 : Dc cX5_readNumber 57 (.iload_n 2) 1 58 := ⟨DX5_readNumber_c1.2.2.2.2.2.2.2.2.2.2.2.2.2.2.2, rfl⟩
theorem DX5_readNumber_c2 : decode cX5_readNumber 58 = .ok (.if_icmp .gt 21, 3) ∧ decode cX5_readNumber 61 = .ok (.bipush 10, 2) ∧ decode cX5_readNumber 63 = .ok (.iload_n 3, 1) ∧ decode cX5_readNumber 64 = .ok (.imul, 1) ∧ decode cX5_readNumber 65 = .ok (.iload 4, 2) ∧ decode cX5_readNumber 67 = .ok (.iadd, 1) ∧ decode cX5_readNumber 68 = .ok (.istore_n 3, 1) ∧ decode cX5_readNumber 69 = .ok (.aload_n 0, 1) ∧ decode cX5_readNumber 70 = .ok (.dup, 1) ∧ decode cX5_readNumber 71 = .ok (.getfield 28, 3) ∧ decode cX5_readNumber 74 = .ok (.iconst 1, 1) ∧ decode cX5_readNumber 75 = .ok (.iadd, 1) ∧ decode cX5_readNumber 76 = .ok (.putfield 28, 3) ∧ decode cX5_readNumber 79 = .ok (.iload_n 3, 1) ∧ decode cX5_readNumber 80 = .ok (.iload_n 1, 1) ∧ decode cX5_readNumber 81 = .ok (.if_icmp .ge 7, 3) := by decide +kernel
theorem dX5_readNumber_58 : Db cX5_readNumber 58 (fun o => .if_icmp .gt o) 61 79 := ⟨21, DX5_readNumber_c2.1, rfl, rfl⟩
theorem dX5_readNumber_61 : Dc cX5_readNumber 61 (.bipush 10) 2 63 := ⟨DX5_readNumber_c2.2.1, rfl⟩
theorem dX5_readNumber_63 : Dc cX5_readNumber 63 (.iload_n 3) 1 64 := ⟨DX5_readNumber_c2.2.2.1, rfl⟩
theorem dX5_readNumber_64 : Dc cX5_readNumber 64 (.imul) 1 65 := ⟨DX5_readNumber_c2.2.2.2.1, rfl⟩
theorem dX5_readNumber_65 : Dc cX5_readNumber 65 (.iload 4) 2 67 := ⟨DX5_readNumber_c2.2.2.2.2.1, rfl⟩
theorem dX5_readNumber_67 : Dc cX5_readNumber 67 (.iadd) 1 68 := ⟨DX5_readNumber_c2.2.2.2.2.2.1, rfl⟩
theorem dX5_readNumber_68 : Dc cX5_readNumber 68 (.istore_n 3) 1 69 := ⟨DX5_readNumber_c2.2.2.2.2.2.2.1, rfl⟩
theorem dX5_readNumber_69 : Dc cX5_readNumber 69 (.aload_n 0) 1 70 := ⟨DX5_readNumber_c2.2.2.2.2.2.2.2.1, rfl⟩
theorem dX5_readNumber_70 : Dc cX5_readNumber 70 (.dup) 1 71 := ⟨DX5_readNumber_c2.2.2.2.2.2.2.2.2.1, rfl⟩
theorem dX5_readNumber_71 : Dc cX5_readNumber 71 (.getfield 28) 3 74 := ⟨DX5_readNumber_c2.2.2.2.2.2.2.2.2.2.1, rfl⟩
theorem dX5_readNumber_74 : Dc cX5_readNumber 74 (.iconst 1) 1 75 := ⟨DX5_readNumber_c2.2.2.2.2.2.2.2.2.2.2.1, rfl⟩
theorem dX5_readNumber_75 : Dc cX5_readNumber 75 (.iadd) 1 76 := ⟨DX5_readNumber_c2.2.2.2.2.2.2.2.2.2.2.2.1, rfl⟩
theorem dX5_readNumber_76 : Dc cX5_readNumber 76 (.putfield 28) 3 79 := ⟨DX5_readNumber_c2.2.2.2.2.2.2.2.2.2.2.2.2.1, rfl⟩
theorem dX5_readNumber_79 : Dc cX5_readNumber 79 (.iload_n 3) 1 80 := ⟨DX5_readNumber_c2.2.2.2.2.2.2.2.2.2.2.2.2.2.1, rfl⟩
theorem dX5_readNumber_80 : Dc cX5_readNumber 80 (.iload_n 1) 1 81 := ⟨DX5_readNumber_c2.2.2.2.2.2.2.2.2.2.2.2.2.2.2.1, rfl⟩
theorem dX5_readNumber_81 : Db cX5_readNumber 81 (fun o => .if_icmp .ge o) 84 88 := ⟨7, DX5_readNumber_c2.2.2.2.2.2.2.2.2.2.2.2.2.2.2.2, rfl, rfl⟩
theorem DX5_readNumber_c3 : decode cX5_readNumber 84 = .ok (.iconst (-1), 1) ∧ decode cX5_readNumber 85 = .ok (.goto 4, 3) ∧ decode cX5_readNumber 88 = .ok (.iload_n 3, 1) ∧ decode cX5_readNumber 89 = .ok (.ireturn, 1) := by decide +kernel
theorem dX5_readNumber_84 : Dc cX5_readNumber 84 (.iconst (-1)) 1 85 := ⟨DX5_readNumber_c3.1, rfl⟩
theorem dX5_readNumber_85 : Db cX5_readNumber 85 .goto 88 89 := ⟨4, DX5_readNumber_c3.2.1, rfl, rfl⟩
theorem dX5_readNumber_88 : Dc cX5_readNumber 88 (.iload_n 3) 1 89 := ⟨DX5_readNumber_c3.2.2.1, rfl⟩
theorem dX5_readNumber_89 : Dc cX5_readNumber 89 (.ireturn) 1 90 := ⟨DX5_readNumber_c3.2.2.2, rfl⟩
theorem DX5_digitOf_c0 : decode cX5_digitOf 0 = .ok (.iload_n 0, 1) ∧ decode cX5_digitOf 1 = .ok (.bipush 48, 2) ∧ decode cX5_digitOf 3 = .ok (.if_icmp .lt 16, 3) ∧ decode cX5_digitOf 6 = .ok (.iload_n 0, 1) ∧ decode cX5_digitOf 7 = .ok (.bipush 57, 2) ∧ decode cX5_digitOf 9 = .ok (.if_icmp .gt 10, 3) ∧ decode cX5_digitOf 12 = .ok (.iload_n 0, 1) ∧ decode cX5_digitOf 13 = .ok (.bipush 48, 2) ∧ decode cX5_digitOf 15 = .ok (.isub, 1) ∧ decode cX5_digitOf 16 = .ok (.goto 4, 3) ∧ decode cX5_digitOf 19 = .ok (.iconst (-1), 1) ∧ decode cX5_digitOf 20 = .ok (.ireturn, 1) := by decide +kernel
theorem dX5_digitOf_0 : Dc cX5_digitOf 0 (.iload_n 0) 1 1 := ⟨DX5_digitOf_c0.1, rfl⟩
theorem dX5_digitOf_1 : Dc cX5_digitOf 1 (.bipush 48) 2 3 := ⟨DX5_digitOf_c0.2.1, rfl⟩
theorem dX5_digitOf_3 : Db cX5_digitOf 3 (fun o => .if_icmp .lt o) 6 19 := ⟨16, DX5_digitOf_c0.2.2.1, rfl, rfl⟩
theorem dX5_digitOf_6 : Dc cX5_digitOf 6 (.iload_n 0) 1 7 := ⟨DX5_digitOf_c0.2.2.2.1, rfl⟩
theorem dX5_digitOf_7 : Dc cX5_digitOf 7 (.bipush 57) 2 9 := ⟨DX5_digitOf_c0.2.2.2.2.1, rfl⟩
theorem dX5_digitOf_9 : Db cX5_digitOf 9 (fun o => .if_icmp .gt o) 12 19 := ⟨10, DX5_digitOf_c0.2.2.2.2.2.1, rfl, rfl⟩
theorem dX5_digitOf_12 : Dc cX5_digitOf 12 (.iload_n 0) 1 13 := ⟨DX5_digitOf_c0.2.2.2.2.2.2.1, rfl⟩
theorem dX5_digitOf_13 : Dc cX5_digitOf 13 (.bipush 48) 2 15 := ⟨DX5_digitOf_c0.2.2.2.2.2.2.2.1, rfl⟩
theorem dX5_digitOf_15 : Dc cX5_digitOf 15 (.isub) 1 16 := ⟨DX5_digitOf_c0.2.2.2.2.2.2.2.2.1, rfl⟩
theorem dX5_digitOf_16 : Db cX5_digitOf 16 .goto 19 20 := ⟨4, DX5_digitOf_c0.2.2.2.2.2.2.2.2.2.1, rfl, rfl⟩
theorem dX5_digitOf_19 : Dc cX5_digitOf 19 (.iconst (-1)) 1 20 := ⟨DX5_digitOf_c0.2.2.2.2.2.2.2.2.2.2.1, rfl⟩
theorem dX5_digitOf_20 : Dc cX5_digitOf 20 (.ireturn) 1 21 := ⟨DX5_digitOf_c0.2.2.2.2.2.2.2.2.2.2.2, rfl⟩
theorem DX5_take_c0 : decode cX5_take 0 = .ok (.aload_n 0, 1) ∧ decode cX5_take 1 = .ok (.invokevirtual 45, 3) ∧ decode cX5_take 4 = .ok (.iload_n 1, 1) ∧ decode cX5_take 5 = .ok (.if_icmp .eq 5, 3) ∧ decode cX5_take 8 = .ok (.iconst 0, 1) ∧ decode cX5_take 9 = .ok (.ireturn, 1) ∧ decode cX5_take 10 = .ok (.aload_n 0, 1) ∧ decode cX5_take 11 = .ok (.dup, 1) ∧ decode cX5_take 12 = .ok (.getfield 28, 3) ∧ decode cX5_take 15 = .ok (.iconst 1, 1) ∧ decode cX5_take 16 = .ok (.iadd, 1) ∧ decode cX5_take 17 = .ok (.putfield 28, 3) ∧ decode cX5_take 20 = .ok (.iconst 1, 1) ∧ decode cX5_take 21 = .ok (.ireturn, 1) := by decide +kernel
theorem dX5_take_0 : Dc cX5_take 0 (.aload_n 0) 1 1 := ⟨DX5_take_c0.1, rfl⟩
theorem dX5_take_1 : Dc cX5_take 1 (.invokevirtual 45) 3 4 := ⟨DX5_take_c0.2.1, rfl⟩
theorem dX5_take_4 : Dc cX5_take 4 (.iload_n 1) 1 5 := ⟨DX5_take_c0.2.2.1, rfl⟩
theorem dX5_take_5 : Db cX5_take 5 (fun o => .if_icmp .eq o) 8 10 := ⟨5, DX5_take_c0.2.2.2.1, rfl, rfl⟩
theorem dX5_take_8 : Dc cX5_take 8 (.iconst 0) 1 9 := ⟨DX5_take_c0.2.2.2.2.1, rfl⟩
theorem dX5_take_9 : Dc cX5_take 9 (.ireturn) 1 10 := ⟨DX5_take_c0.2.2.2.2.2.1, rfl⟩
theorem dX5_take_10 : Dc cX5_take 10 (.aload_n 0) 1 11 := ⟨DX5_take_c0.2.2.2.2.2.2.1, rfl⟩
theorem dX5_take_11 : Dc cX5_take 11 (.dup) 1 12 := ⟨DX5_take_c0.2.2.2.2.2.2.2.1, rfl⟩
theorem dX5_take_12 : Dc cX5_take 12 (.getfield 28) 3 15 := ⟨DX5_take_c0.2.2.2.2.2.2.2.2.1, rfl⟩
theorem dX5_take_15 : Dc cX5_take 15 (.iconst 1) 1 16 := ⟨DX5_take_c0.2.2.2.2.2.2.2.2.2.1, rfl⟩
theorem dX5_take_16 : Dc cX5_take 16 (.iadd) 1 17 := ⟨DX5_take_c0.2.2.2.2.2.2.2.2.2.2.1, rfl⟩
theorem dX5_take_17 : Dc cX5_take 17 (.putfield 28) 3 20 := ⟨DX5_take_c0.2.2.2.2.2.2.2.2.2.2.2.1, rfl⟩
theorem dX5_take_20 : Dc cX5_take 20 (.iconst 1) 1 21 := ⟨DX5_take_c0.2.2.2.2.2.2.2.2.2.2.2.2.1, rfl⟩
theorem dX5_take_21 : Dc cX5_take 21 (.ireturn) 1 22 := ⟨DX5_take_c0.2.2.2.2.2.2.2.2.2.2.2.2.2, rfl⟩
theorem DX5_next_c0 : decode cX5_next 0 = .ok (.aload_n 0, 1) ∧ decode cX5_next 1 = .ok (.getfield 28, 3) ∧ decode cX5_next 4 = .ok (.ifCond .lt 38, 3) ∧ decode cX5_next 7 = .ok (.aload_n 0, 1) ∧ decode cX5_next 8 = .ok (.getfield 28, 3) ∧ decode cX5_next 11 = .ok (.aload_n 0, 1) ∧ decode cX5_next 12 = .ok (.getfield 24, 3) ∧ decode cX5_next 15 = .ok (.if_icmp .ge 27, 3) ∧ decode cX5_next 18 = .ok (.aload_n 0, 1) ∧ decode cX5_next 19 = .ok (.getfield 28, 3) ∧ decode cX5_next 22 = .ok (.aload_n 0, 1) ∧ decode cX5_next 23 = .ok (.getfield 9, 3) ∧ decode cX5_next 26 = .ok (.arraylength, 1) ∧ decode cX5_next 27 = .ok (.if_icmp .ge 15, 3) ∧ decode cX5_next 30 = .ok (.aload_n 0, 1) ∧ decode cX5_next 31 = .ok (.getfield 9, 3) := by decide +kernel
theorem dX5_next_0 : Dc cX5_next 0 (.aload_n 0) 1 1 := ⟨DX5_next_c0.1, rfl⟩
theorem dX5_next_1 : Dc cX5_next 1 (.getfield 28) 3 4 := ⟨DX5_next_c0.2.1, rfl⟩
theorem dX5_next_4 : Db cX5_next 4 (fun o => .ifCond .lt o) 7 42 := ⟨38, DX5_next_c0.2.2.1, rfl, rfl⟩
theorem dX5_next_7 : Dc cX5_next 7 (.aload_n 0) 1 8 := ⟨DX5_next_c0.2.2.2.1, rfl⟩
theorem dX5_next_8 : Dc cX5_next 8 (.getfield 28) 3 11 := ⟨DX5_next_c0.2.2.2.2.1, rfl⟩
theorem dX5_next_11 : Dc cX5_next 11 (.aload_n 0) 1 12 := ⟨DX5_next_c0.2.2.2.2.2.1, rfl⟩
theorem dX5_next_12 : Dc cX5_next 12 (.getfield 24) 3 15 := ⟨DX5_next_c0.2.2.2.2.2.2.1, rfl⟩
theorem dX5_next_15 : Db cX5_next 15 (fun o => .if_icmp .ge o) 18 42 := ⟨27, DX5_next_c0.2.2.2.2.2.2.2.1, rfl, rfl⟩
theorem dX5_next_18 : Dc cX5_next 18 (.aload_n 0) 1 19 := ⟨DX5_next_c0.2.2.2.2.2.2.2.2.1, rfl⟩
theorem dX5_next_19 : Dc cX5_next 19 (.getfield 28) 3 22 := ⟨DX5_next_c0.2.2.2.2.2.2.2.2.2.1, rfl⟩
theorem dX5_next_22 : Dc cX5_next 22 (.aload_n 0) 1 23 := ⟨DX5_next_c0.2.2.2.2.2.2.2.2.2.2.1, rfl⟩
theorem dX5_next_23 : Dc cX5_next 23 (.getfield 9) 3 26 := ⟨DX5_next_c0.2.2.2.2.2.2.2.2.2.2.2.1, rfl⟩
theorem dX5_next_26 : Dc cX5_next 26 (.arraylength) 1 27 := ⟨DX5_next_c0.2.2.2.2.2.2.2.2.2.2.2.2.1, rfl⟩
theorem dX5_next_27 : Db cX5_next 27 (fun o => .if_icmp .ge o) 30 42 := ⟨15, DX5_next_c0.2.2.2.2.2.2.2.2.2.2.2.2.2.1, rfl, rfl⟩
theorem dX5_next_30 : Dc cX5_next 30 (.aload_n 0) 1 31 := ⟨DX5_next_c0.2.2.2.2.2.2.2.2.2.2.2.2.2.2.1, rfl⟩
theorem dX5_next_31 : Dc cX5_next 31 (.getfield 9) 3 34 := ⟨DX5_next_c0.2.2.2.2.2.2.2.2.2.2.2.2.2.2.2, rfl⟩
theorem DX5_next_c1 : decode cX5_next 34 = .ok (.aload_n 0, 1) ∧ decode cX5_next 35 = .ok (.getfield 28, 3) ∧ decode cX5_next 38 = .ok (.caload, 1) ∧ decode cX5_next 39 = .ok (.goto 4, 3) ∧ decode cX5_next 42 = .ok (.iconst 0, 1) ∧ decode cX5_next 43 = .ok (.ireturn, 1) := by decide +kernel
theorem dX5_next_34 : Dc cX5_next 34 (.aload_n 0) 1 35 := ⟨DX5_next_c1.1, rfl⟩
theorem dX5_next_35 : Dc cX5_next 35 (.getfield 28) 3 38 := ⟨DX5_next_c1.2.1, rfl⟩
theorem dX5_next_38 : Dc cX5_next 38 (.caload) 1 39 := ⟨DX5_next_c1.2.2.1, rfl⟩
theorem dX5_next_39 : Db cX5_next 39 .goto 42 43 := ⟨4, DX5_next_c1.2.2.2.1, rfl, rfl⟩
theorem dX5_next_42 : Dc cX5_next 42 (.iconst 0) 1 43 := ⟨DX5_next_c1.2.2.2.2.1, rfl⟩
theorem dX5_next_43 : Dc cX5_next 43 (.ireturn) 1 44 := ⟨DX5_next_c1.2.2.2.2.2, rfl⟩
