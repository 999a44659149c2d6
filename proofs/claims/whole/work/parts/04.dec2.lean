theorem DX7_init_c0 : decode cX7_init 0 = .ok (.aload_n 0, 1) ∧ decode cX7_init 1 = .ok (.invokespecial 1, 3) ∧ decode cX7_init 4 = .ok (.aload_n 0, 1) ∧ decode cX7_init 5 = .ok (.sipush 441, 3) ∧ decode cX7_init 8 = .ok (.newarray .int, 2) ∧ decode cX7_init 10 = .ok (.putfield 7, 3) ∧ decode cX7_init 13 = .ok (.aload_n 0, 1) ∧ decode cX7_init 14 = .ok (.sipush 441, 3) ∧ decode cX7_init 17 = .ok (.newarray .int, 2) ∧ decode cX7_init 19 = .ok (.putfield 13, 3) ∧ decode cX7_init 22 = .ok (.aload_n 0, 1) ∧ decode cX7_init 23 = .ok (.sipush 1764, 3) ∧ decode cX7_init 26 = .ok (.newarray .int, 2) ∧ decode cX7_init 28 = .ok (.putfield 16, 3) ∧ decode cX7_init 31 = .ok (.aload_n 0, 1) ∧ decode cX7_init 32 = .ok (.sipush 441, 3) := by decide +kernel
theorem dX7_init_0 : Dc cX7_init 0 (.aload_n 0) 1 1 := ⟨DX7_init_c0.1, rfl⟩
theorem dX7_init_1 : Dc cX7_init 1 (.invokespecial 1) 3 4 := ⟨DX7_init_c0.2.1, rfl⟩
theorem dX7_init_4 : Dc cX7_init 4 (.aload_n 0) 1 5 := ⟨DX7_init_c0.2.2.1, rfl⟩
theorem dX7_init_5 : Dc cX7_init 5 (.sipush 441) 3 8 := ⟨DX7_init_c0.2.2.2.1, rfl⟩
theorem dX7_init_8 : Dc cX7_init 8 (.newarray .int) 2 10 := ⟨DX7_init_c0.2.2.2.2.1, rfl⟩
theorem dX7_init_10 : Dc cX7_init 10 (.putfield 7) 3 13 := ⟨DX7_init_c0.2.2.2.2.2.1, rfl⟩
theorem dX7_init_13 : Dc cX7_init 13 (.aload_n 0) 1 14 := ⟨DX7_init_c0.2.2.2.2.2.2.1, rfl⟩
theorem dX7_init_14 : Dc cX7_init 14 (.sipush 441) 3 17 := ⟨DX7_init_c0.2.2.2.2.2.2.2.1, rfl⟩
theorem dX7_init_17 : Dc cX7_init 17 (.newarray .int) 2 19 := ⟨DX7_init_c0.2.2.2.2.2.2.2.2.1, rfl⟩
theorem dX7_init_19 : Dc cX7_init 19 (.putfield 13) 3 22 := ⟨DX7_init_c0.2.2.2.2.2.2.2.2.2.1, rfl⟩
theorem dX7_init_22 : Dc cX7_init 22 (.aload_n 0) 1 23 := ⟨DX7_init_c0.2.2.2.2.2.2.2.2.2.2.1, rfl⟩
theorem dX7_init_23 : Dc cX7_init 23 (.sipush 1764) 3 26 := ⟨DX7_init_c0.2.2.2.2.2.2.2.2.2.2.2.1, rfl⟩
theorem dX7_init_26 : Dc cX7_init 26 (.newarray .int) 2 28 := ⟨DX7_init_c0.2.2.2.2.2.2.2.2.2.2.2.2.1, rfl⟩
theorem dX7_init_28 : Dc cX7_init 28 (.putfield 16) 3 31 := ⟨DX7_init_c0.2.2.2.2.2.2.2.2.2.2.2.2.2.1, rfl⟩
theorem dX7_init_31 : Dc cX7_init 31 (.aload_n 0) 1 32 := ⟨DX7_init_c0.2.2.2.2.2.2.2.2.2.2.2.2.2.2.1, rfl⟩
theorem dX7_init_32 : Dc cX7_init 32 (.sipush 441) 3 35 := ⟨DX7_init_c0.2.2.2.2.2.2.2.2.2.2.2.2.2.2.2, rfl⟩
theorem DX7_init_c1 : decode cX7_init 35 = .ok (.newarray .int, 2) ∧ decode cX7_init 37 = .ok (.putfield 19, 3) ∧ decode cX7_init 40 = .ok (.aload_n 0, 1) ∧ decode cX7_init 41 = .ok (.bipush 60, 2) ∧ decode cX7_init 43 = .ok (.newarray .int, 2) ∧ decode cX7_init 45 = .ok (.putfield 22, 3) ∧ decode cX7_init 48 = .ok (.aload_n 0, 1) ∧ decode cX7_init 49 = .ok (.bipush 20, 2) ∧ decode cX7_init 51 = .ok (.newarray .int, 2) ∧ decode cX7_init 53 = .ok (.putfield 25, 3) ∧ decode cX7_init 56 = .ok (.aload_n 0, 1) ∧ decode cX7_init 57 = .ok (.bipush 20, 2) ∧ decode cX7_init 59 = .ok (.newarray .int, 2) ∧ decode cX7_init 61 = .ok (.putfield 28, 3) ∧ decode cX7_init 64 = .ok (.aload_n 0, 1) ∧ decode cX7_init 65 = .ok (.bipush 20, 2) := by decide +kernel
theorem dX7_init_35 : Dc cX7_init 35 (.newarray .int) 2 37 := ⟨DX7_init_c1.1, rfl⟩
theorem dX7_init_37 : Dc cX7_init 37 (.putfield 19) 3 40 := ⟨DX7_init_c1.2.1, rfl⟩
theorem dX7_init_40 : Dc cX7_init 40 (.aload_n 0) 1 41 := ⟨DX7_init_c1.2.2.1, rfl⟩
theorem dX7_init_41 : Dc cX7_init 41 (.bipush 60) 2 43 := ⟨DX7_init_c1.2.2.2.1, rfl⟩
theorem dX7_init_43 : Dc cX7_init 43 (.newarray .int) 2 45 := ⟨DX7_init_c1.2.2.2.2.1, rfl⟩
theorem dX7_init_45 : Dc cX7_init 45 (.putfield 22) 3 48 := ⟨DX7_init_c1.2.2.2.2.2.1, rfl⟩
theorem dX7_init_48 : Dc cX7_init 48 (.aload_n 0) 1 49 := ⟨DX7_init_c1.2.2.2.2.2.2.1, rfl⟩
theorem dX7_init_49 : Dc cX7_init 49 (.bipush 20) 2 51 := ⟨DX7_init_c1.2.2.2.2.2.2.2.1, rfl⟩
theorem dX7_init_51 : Dc cX7_init 51 (.newarray .int) 2 53 := ⟨DX7_init_c1.2.2.2.2.2.2.2.2.1, rfl⟩
theorem dX7_init_53 : Dc cX7_init 53 (.putfield 25) 3 56 := ⟨DX7_init_c1.2.2.2.2.2.2.2.2.2.1, rfl⟩
theorem dX7_init_56 : Dc cX7_init 56 (.aload_n 0) 1 57 := ⟨DX7_init_c1.2.2.2.2.2.2.2.2.2.2.1, rfl⟩
theorem dX7_init_57 : Dc cX7_init 57 (.bipush 20) 2 59 := ⟨DX7_init_c1.2.2.2.2.2.2.2.2.2.2.2.1, rfl⟩
theorem dX7_init_59 : Dc cX7_init 59 (.newarray .int) 2 61 := ⟨DX7_init_c1.2.2.2.2.2.2.2.2.2.2.2.2.1, rfl⟩
theorem dX7_init_61 : Dc cX7_init 61 (.putfield 28) 3 64 := ⟨DX7_init_c1.2.2.2.2.2.2.2.2.2.2.2.2.2.1, rfl⟩
theorem dX7_init_64 : Dc cX7_init 64 (.aload_n 0) 1 65 := ⟨DX7_init_c1.2.2.2.2.2.2.2.2.2.2.2.2.2.2.1, rfl⟩
theorem dX7_init_65 : Dc cX7_init 65 (.bipush 20) 2 67 := ⟨DX7_init_c1.2.2.2.2.2.2.2.2.2.2.2.2.2.2.2, rfl⟩
theorem DX7_init_c2 : decode cX7_init 67 = .ok (.newarray .int, 2) ∧ decode cX7_init 69 = .ok (.putfield 31, 3) ∧ decode cX7_init 72 = .ok (.aload_n 0, 1) ∧ decode cX7_init 73 = .ok (.sipush 169, 3) ∧ decode cX7_init 76 = .ok (.newarray .int, 2) ∧ decode cX7_init 78 = .ok (.putfield 34, 3) ∧ decode cX7_init 81 = .ok (.aload_n 0, 1) ∧ decode cX7_init 82 = .ok (.getfield 7, 3) ∧ decode cX7_init 85 = .ok (.bipush 37, 2) ∧ decode cX7_init 87 = .ok (.bipush (-5), 2) ∧ decode cX7_init 89 = .ok (.iastore, 1) ∧ decode cX7_init 90 = .ok (.return_, 1) := by decide +kernel
theorem dX7_init_67 : Dc cX7_init 67 (.newarray .int) 2 69 := ⟨DX7_init_c2.1, rfl⟩
theorem dX7_init_69 : Dc cX7_init 69 (.putfield 31) 3 72 := ⟨DX7_init_c2.2.1, rfl⟩
theorem dX7_init_72 : Dc cX7_init 72 (.aload_n 0) 1 73 := ⟨DX7_init_c2.2.2.1, rfl⟩
theorem dX7_init_73 : Dc cX7_init 73 (.sipush 169) 3 76 := ⟨DX7_init_c2.2.2.2.1, rfl⟩
theorem dX7_init_76 : Dc cX7_init 76 (.newarray .int) 2 78 := ⟨DX7_init_c2.2.2.2.2.1, rfl⟩
theorem dX7_init_78 : Dc cX7_init 78 (.putfield 34) 3 81 := ⟨DX7_init_c2.2.2.2.2.2.1, rfl⟩
theorem dX7_init_81 : Dc cX7_init 81 (.aload_n 0) 1 82 := ⟨DX7_init_c2.2.2.2.2.2.2.1, rfl⟩
theorem dX7_init_82 : Dc cX7_init 82 (.getfield 7) 3 85 := ⟨DX7_init_c2.2.2.2.2.2.2.2.1, rfl⟩
theorem dX7_init_85 : Dc cX7_init 85 (.bipush 37) 2 87 := ⟨DX7_init_c2.2.2.2.2.2.2.2.2.1, rfl⟩
theorem dX7_init_87 : Dc cX7_init 87 (.bipush (-5)) 2 89 := ⟨DX7_init_c2.2.2.2.2.2.2.2.2.2.1, rfl⟩
theorem dX7_init_89 : Dc cX7_init 89 (.iastore) 1 90 := ⟨DX7_init_c2.2.2.2.2.2.2.2.2.2.2.1, rfl⟩
theorem dX7_init_90 : Dc cX7_init 90 (.return_) 1 91 := ⟨DX7_init_c2.2.2.2.2.2.2.2.2.2.2.2, rfl⟩
theorem DX7_in_c0 : decode cX7_in 0 = .ok (.iload_n 0, 1) ∧ decode cX7_in 1 = .ok (.iload_n 1, 1) ∧ decode cX7_in 2 = .ok (.if_icmp .lt 12, 3) ∧ decode cX7_in 5 = .ok (.iload_n 0, 1) ∧ decode cX7_in 6 = .ok (.iload_n 2, 1) ∧ decode cX7_in 7 = .ok (.if_icmp .gt 7, 3) ∧ decode cX7_in 10 = .ok (.iconst 1, 1) ∧ decode cX7_in 11 = .ok (.goto 4, 3) ∧ decode cX7_in 14 = .ok (.iconst 0, 1) ∧ decode cX7_in 15 = .ok (.ireturn, 1) := by decide +kernel
theorem dX7_in_0 : Dc cX7_in 0 (.iload_n 0) 1 1 := ⟨DX7_in_c0.1, rfl⟩
theorem dX7_in_1 : Dc cX7_in 1 (.iload_n 1) 1 2 := ⟨DX7_in_c0.2.1, rfl⟩
theorem dX7_in_2 : Db cX7_in 2 (fun o => .if_icmp .lt o) 5 14 := ⟨12, DX7_in_c0.2.2.1, rfl, rfl⟩
theorem dX7_in_5 : Dc cX7_in 5 (.iload_n 0) 1 6 := ⟨DX7_in_c0.2.2.2.1, rfl⟩
theorem dX7_in_6 : Dc cX7_in 6 (.iload_n 2) 1 7 := ⟨DX7_in_c0.2.2.2.2.1, rfl⟩
theorem dX7_in_7 : Db cX7_in 7 (fun o => .if_icmp .gt o) 10 14 := ⟨7, DX7_in_c0.2.2.2.2.2.1, rfl, rfl⟩
theorem dX7_in_10 : Dc cX7_in 10 (.iconst 1) 1 11 := ⟨DX7_in_c0.2.2.2.2.2.2.1, rfl⟩
theorem dX7_in_11 : Db cX7_in 11 .goto 14 15 := ⟨4, DX7_in_c0.2.2.2.2.2.2.2.1, rfl, rfl⟩
theorem dX7_in_14 : Dc cX7_in 14 (.iconst 0) 1 15 := ⟨DX7_in_c0.2.2.2.2.2.2.2.2.1, rfl⟩
theorem dX7_in_15 : Dc cX7_in 15 (.ireturn) 1 16 := ⟨DX7_in_c0.2.2.2.2.2.2.2.2.2, rfl⟩
theorem DX7_greatest_c0 : decode cX7_greatest 0 = .ok (.iload_n 0, 1) ∧ decode cX7_greatest 1 = .ok (.ifCond .eq 13, 3) ∧ decode cX7_greatest 4 = .ok (.iload_n 0, 1) ∧ decode cX7_greatest 5 = .ok (.iconst 3, 1) ∧ decode cX7_greatest 6 = .ok (.if_icmp .eq 8, 3) ∧ decode cX7_greatest 9 = .ok (.iload_n 0, 1) ∧ decode cX7_greatest 10 = .ok (.iconst 4, 1) ∧ decode cX7_greatest 11 = .ok (.if_icmp .ne 8, 3) ∧ decode cX7_greatest 14 = .ok (.bipush 29, 2) ∧ decode cX7_greatest 16 = .ok (.goto 5, 3) ∧ decode cX7_greatest 19 = .ok (.bipush 99, 2) ∧ decode cX7_greatest 21 = .ok (.ireturn, 1) := by decide +kernel
theorem dX7_greatest_0 : Dc cX7_greatest 0 (.iload_n 0) 1 1 := ⟨DX7_greatest_c0.1, rfl⟩
theorem dX7_greatest_1 : Db cX7_greatest 1 (fun o => .ifCond .eq o) 4 14 := ⟨13, DX7_greatest_c0.2.1, rfl, rfl⟩
theorem dX7_greatest_4 : Dc cX7_greatest 4 (.iload_n 0) 1 5 := ⟨DX7_greatest_c0.2.2.1, rfl⟩
theorem dX7_greatest_5 : Dc cX7_greatest 5 (.iconst 3) 1 6 := ⟨DX7_greatest_c0.2.2.2.1, rfl⟩
theorem dX7_greatest_6 : Db cX7_greatest 6 (fun o => .if_icmp .eq o) 9 14 := ⟨8, DX7_greatest_c0.2.2.2.2.1, rfl, rfl⟩
theorem dX7_greatest_9 : Dc cX7_greatest 9 (.iload_n 0) 1 10 := ⟨DX7_greatest_c0.2.2.2.2.2.1, rfl⟩
theorem dX7_greatest_10 : Dc cX7_greatest 10 (.iconst 4) 1 11 := ⟨DX7_greatest_c0.2.2.2.2.2.2.1, rfl⟩
theorem dX7_greatest_11 : Db cX7_greatest 11 (fun o => .if_icmp .ne o) 14 19 := ⟨8, DX7_greatest_c0.2.2.2.2.2.2.2.1, rfl, rfl⟩
theorem dX7_greatest_14 : Dc cX7_greatest 14 (.bipush 29) 2 16 := ⟨DX7_greatest_c0.2.2.2.2.2.2.2.2.1, rfl⟩
theorem dX7_greatest_16 : Db cX7_greatest 16 .goto 19 21 := ⟨5, DX7_greatest_c0.2.2.2.2.2.2.2.2.2.1, rfl, rfl⟩
theorem dX7_greatest_19 : Dc cX7_greatest 19 (.bipush 99) 2 21 := ⟨DX7_greatest_c0.2.2.2.2.2.2.2.2.2.2.1, rfl⟩
theorem dX7_greatest_21 : Dc cX7_greatest 21 (.ireturn) 1 22 := ⟨DX7_greatest_c0.2.2.2.2.2.2.2.2.2.2.2, rfl⟩
theorem DX7_isTry_c0 : decode cX7_isTry 0 = .ok (.iload_n 1, 1) ∧ decode cX7_isTry 1 = .ok (.iconst 0, 1) ∧ decode cX7_isTry 2 = .ok (.aload_n 0, 1) ∧ decode cX7_isTry 3 = .ok (.getfield 7, 3) ∧ decode cX7_isTry 6 = .ok (.bipush 31, 2) ∧ decode cX7_isTry 8 = .ok (.iaload, 1) ∧ decode cX7_isTry 9 = .ok (.iconst 1, 1) ∧ decode cX7_isTry 10 = .ok (.isub, 1) ∧ decode cX7_isTry 11 = .ok (.invokestatic 37, 3) ∧ decode cX7_isTry 14 = .ok (.ireturn, 1) := by decide +kernel
theorem dX7_isTry_0 : Dc cX7_isTry 0 (.iload_n 1) 1 1 := ⟨DX7_isTry_c0.1, rfl⟩
theorem dX7_isTry_1 : Dc cX7_isTry 1 (.iconst 0) 1 2 := ⟨DX7_isTry_c0.2.1, rfl⟩
theorem dX7_isTry_2 : Dc cX7_isTry 2 (.aload_n 0) 1 3 := ⟨DX7_isTry_c0.2.2.1, rfl⟩
theorem dX7_isTry_3 : Dc cX7_isTry 3 (.getfield 7) 3 6 := ⟨DX7_isTry_c0.2.2.2.1, rfl⟩
theorem dX7_isTry_6 : Dc cX7_isTry 6 (.bipush 31) 2 8 := ⟨DX7_isTry_c0.2.2.2.2.1, rfl⟩
theorem dX7_isTry_8 : Dc cX7_isTry 8 (.iaload) 1 9 := ⟨DX7_isTry_c0.2.2.2.2.2.1, rfl⟩
theorem dX7_isTry_9 : Dc cX7_isTry 9 (.iconst 1) 1 10 := ⟨DX7_isTry_c0.2.2.2.2.2.2.1, rfl⟩
theorem dX7_isTry_10 : Dc cX7_isTry 10 (.isub) 1 11 := ⟨DX7_isTry_c0.2.2.2.2.2.2.2.1, rfl⟩
theorem dX7_isTry_11 : Dc cX7_isTry 11 (.invokestatic 37) 3 14 := ⟨DX7_isTry_c0.2.2.2.2.2.2.2.2.1, rfl⟩
theorem dX7_isTry_14 : Dc cX7_isTry 14 (.ireturn) 1 15 := ⟨DX7_isTry_c0.2.2.2.2.2.2.2.2.2, rfl⟩
theorem DX7_isLoop_c0 : decode cX7_isLoop 0 = .ok (.iload_n 1, 1) ∧ decode cX7_isLoop 1 = .ok (.iconst 0, 1) ∧ decode cX7_isLoop 2 = .ok (.aload_n 0, 1) ∧ decode cX7_isLoop 3 = .ok (.getfield 7, 3) ∧ decode cX7_isLoop 6 = .ok (.bipush 33, 2) ∧ decode cX7_isLoop 8 = .ok (.iaload, 1) ∧ decode cX7_isLoop 9 = .ok (.iconst 1, 1) ∧ decode cX7_isLoop 10 = .ok (.isub, 1) ∧ decode cX7_isLoop 11 = .ok (.invokestatic 37, 3) ∧ decode cX7_isLoop 14 = .ok (.ireturn, 1) := by decide +kernel
theorem dX7_isLoop_0 : Dc cX7_isLoop 0 (.iload_n 1) 1 1 := ⟨DX7_isLoop_c0.1, rfl⟩
theorem dX7_isLoop_1 : Dc cX7_isLoop 1 (.iconst 0) 1 2 := ⟨DX7_isLoop_c0.2.1, rfl⟩
theorem dX7_isLoop_2 : Dc cX7_isLoop 2 (.aload_n 0) 1 3 := ⟨DX7_isLoop_c0.2.2.1, rfl⟩
theorem dX7_isLoop_3 : Dc cX7_isLoop 3 (.getfield 7) 3 6 := ⟨DX7_isLoop_c0.2.2.2.1, rfl⟩
theorem dX7_isLoop_6 : Dc cX7_isLoop 6 (.bipush 33) 2 8 := ⟨DX7_isLoop_c0.2.2.2.2.1, rfl⟩
theorem dX7_isLoop_8 : Dc cX7_isLoop 8 (.iaload) 1 9 := ⟨DX7_isLoop_c0.2.2.2.2.2.1, rfl⟩
theorem dX7_isLoop_9 : Dc cX7_isLoop 9 (.iconst 1) 1 10 := ⟨DX7_isLoop_c0.2.2.2.2.2.2.1, rfl⟩
theorem dX7_isLoop_10 : Dc cX7_isLoop 10 (.isub) 1 11 := ⟨DX7_isLoop_c0.2.2.2.2.2.2.2.1, rfl⟩
theorem dX7_isLoop_11 : Dc cX7_isLoop 11 (.invokestatic 37) 3 14 := ⟨DX7_isLoop_c0.2.2.2.2.2.2.2.2.1, rfl⟩
theorem dX7_isLoop_14 : Dc cX7_isLoop 14 (.ireturn) 1 15 := ⟨DX7_isLoop_c0.2.2.2.2.2.2.2.2.2, rfl⟩
theorem DX7_sizeOf_c0 : decode cX7_sizeOf 0 = .ok (.aload_n 0, 1) ∧ decode cX7_sizeOf 1 = .ok (.getfield 7, 3) ∧ decode cX7_sizeOf 4 = .ok (.bipush 38, 2) ∧ decode cX7_sizeOf 6 = .ok (.bipush 25, 2) ∧ decode cX7_sizeOf 8 = .ok (.iload_n 1, 1) ∧ decode cX7_sizeOf 9 = .ok (.imul, 1) ∧ decode cX7_sizeOf 10 = .ok (.iadd, 1) ∧ decode cX7_sizeOf 11 = .ok (.iaload, 1) ∧ decode cX7_sizeOf 12 = .ok (.ireturn, 1) := by decide +kernel
theorem dX7_sizeOf_0 : Dc cX7_sizeOf 0 (.aload_n 0) 1 1 := ⟨DX7_sizeOf_c0.1, rfl⟩
theorem dX7_sizeOf_1 : Dc cX7_sizeOf 1 (.getfield 7) 3 4 := ⟨DX7_sizeOf_c0.2.1, rfl⟩
theorem dX7_sizeOf_4 : Dc cX7_sizeOf 4 (.bipush 38) 2 6 := ⟨DX7_sizeOf_c0.2.2.1, rfl⟩
theorem dX7_sizeOf_6 : Dc cX7_sizeOf 6 (.bipush 25) 2 8 := ⟨DX7_sizeOf_c0.2.2.2.1, rfl⟩
theorem dX7_sizeOf_8 : Dc cX7_sizeOf 8 (.iload_n 1) 1 9 := ⟨DX7_sizeOf_c0.2.2.2.2.1, rfl⟩
theorem dX7_sizeOf_9 : Dc cX7_sizeOf 9 (.imul) 1 10 := ⟨DX7_sizeOf_c0.2.2.2.2.2.1, rfl⟩
theorem dX7_sizeOf_10 : Dc cX7_sizeOf 10 (.iadd) 1 11 := ⟨DX7_sizeOf_c0.2.2.2.2.2.2.1, rfl⟩
theorem dX7_sizeOf_11 : Dc cX7_sizeOf 11 (.iaload) 1 12 := ⟨DX7_sizeOf_c0.2.2.2.2.2.2.2.1, rfl⟩
theorem dX7_sizeOf_12 : Dc cX7_sizeOf 12 (.ireturn) 1 13 := ⟨DX7_sizeOf_c0.2.2.2.2.2.2.2.2, rfl⟩
theorem DX7_verbOf_c0 : decode cX7_verbOf 0 = .ok (.aload_n 0, 1) ∧ decode cX7_verbOf 1 = .ok (.getfield 7, 3) ∧ decode cX7_verbOf 4 = .ok (.bipush 38, 2) ∧ decode cX7_verbOf 6 = .ok (.bipush 25, 2) ∧ decode cX7_verbOf 8 = .ok (.iload_n 1, 1) ∧ decode cX7_verbOf 9 = .ok (.imul, 1) ∧ decode cX7_verbOf 10 = .ok (.iadd, 1) ∧ decode cX7_verbOf 11 = .ok (.iconst 1, 1) ∧ decode cX7_verbOf 12 = .ok (.iadd, 1) ∧ decode cX7_verbOf 13 = .ok (.iconst 2, 1) ∧ decode cX7_verbOf 14 = .ok (.iload_n 2, 1) ∧ decode cX7_verbOf 15 = .ok (.imul, 1) ∧ decode cX7_verbOf 16 = .ok (.iadd, 1) ∧ decode cX7_verbOf 17 = .ok (.iaload, 1) ∧ decode cX7_verbOf 18 = .ok (.ireturn, 1) := by decide +kernel
theorem dX7_verbOf_0 : Dc cX7_verbOf 0 (.aload_n 0) 1 1 := ⟨DX7_verbOf_c0.1, rfl⟩
theorem dX7_verbOf_1 : Dc cX7_verbOf 1 (.getfield 7) 3 4 := ⟨DX7_verbOf_c0.2.1, rfl⟩
theorem dX7_verbOf_4 : Dc cX7_verbOf 4 (.bipush 38) 2 6 := ⟨DX7_verbOf_c0.2.2.1, rfl⟩
theorem dX7_verbOf_6 : Dc cX7_verbOf 6 (.bipush 25) 2 8 := ⟨DX7_verbOf_c0.2.2.2.1, rfl⟩
theorem dX7_verbOf_8 : Dc cX7_verbOf 8 (.iload_n 1) 1 9 := ⟨DX7_verbOf_c0.2.2.2.2.1, rfl⟩
theorem dX7_verbOf_9 : Dc cX7_verbOf 9 (.imul) 1 10 := ⟨DX7_verbOf_c0.2.2.2.2.2.1, rfl⟩
theorem dX7_verbOf_10 : Dc cX7_verbOf 10 (.iadd) 1 11 := ⟨DX7_verbOf_c0.2.2.2.2.2.2.1, rfl⟩
theorem dX7_verbOf_11 : Dc cX7_verbOf 11 (.iconst 1) 1 12 := ⟨DX7_verbOf_c0.2.2.2.2.2.2.2.1, rfl⟩
theorem dX7_verbOf_12 : Dc cX7_verbOf 12 (.iadd) 1 13 := ⟨DX7_verbOf_c0.2.2.2.2.2.2.2.2.1, rfl⟩
theorem dX7_verbOf_13 : Dc cX7_verbOf 13 (.iconst 2) 1 14 := ⟨DX7_verbOf_c0.2.2.2.2.2.2.2.2.2.1, rfl⟩
theorem dX7_verbOf_14 : Dc cX7_verbOf 14 (.iload_n 2) 1 15 := ⟨DX7_verbOf_c0.2.2.2.2.2.2.2.2.2.2.1, rfl⟩
theorem dX7_verbOf_15 : Dc cX7_verbOf 15 (.imul) 1 16 := ⟨DX7_verbOf_c0.2.2.2.2.2.2.2.2.2.2.2.1, rfl⟩
theorem dX7_verbOf_16 : Dc cX7_verbOf 16 (.iadd) 1 17 := ⟨DX7_verbOf_c0.2.2.2.2.2.2.2.2.2.2.2.2.1, rfl⟩
theorem dX7_verbOf_17 : Dc cX7_verbOf 17 (.iaload) 1 18 := ⟨DX7_verbOf_c0.2.2.2.2.2.2.2.2.2.2.2.2.2.1, rfl⟩
theorem dX7_verbOf_18 : Dc cX7_verbOf 18 (.ireturn) 1 19 := ⟨DX7_verbOf_c0.2.2.2.2.2.2.2.2.2.2.2.2.2.2, rfl⟩
theorem DX7_numberOf_c0 : decode cX7_numberOf 0 = .ok (.aload_n 0, 1) ∧ decode cX7_numberOf 1 = .ok (.getfield 7, 3) ∧ decode cX7_numberOf 4 = .ok (.bipush 38, 2) ∧ decode cX7_numberOf 6 = .ok (.bipush 25, 2) ∧ decode cX7_numberOf 8 = .ok (.iload_n 1, 1) ∧ decode cX7_numberOf 9 = .ok (.imul, 1) ∧ decode cX7_numberOf 10 = .ok (.iadd, 1) ∧ decode cX7_numberOf 11 = .ok (.iconst 2, 1) ∧ decode cX7_numberOf 12 = .ok (.iadd, 1) ∧ decode cX7_numberOf 13 = .ok (.iconst 2, 1) ∧ decode cX7_numberOf 14 = .ok (.iload_n 2, 1) ∧ decode cX7_numberOf 15 = .ok (.imul, 1) ∧ decode cX7_numberOf 16 = .ok (.iadd, 1) ∧ decode cX7_numberOf 17 = .ok (.iaload, 1) ∧ decode cX7_numberOf 18 = .ok (.ireturn, 1) := by decide +kernel
theorem dX7_numberOf_0 : Dc cX7_numberOf 0 (.aload_n 0) 1 1 := ⟨DX7_numberOf_c0.1, rfl⟩
theorem dX7_numberOf_1 : Dc cX7_numberOf 1 (.getfield 7) 3 4 := ⟨DX7_numberOf_c0.2.1, rfl⟩
theorem dX7_numberOf_4 : Dc cX7_numberOf 4 (.bipush 38) 2 6 := ⟨DX7_numberOf_c0.2.2.1, rfl⟩
theorem dX7_numberOf_6 : Dc cX7_numberOf 6 (.bipush 25) 2 8 := ⟨DX7_numberOf_c0.2.2.2.1, rfl⟩
theorem dX7_numberOf_8 : Dc cX7_numberOf 8 (.iload_n 1) 1 9 := ⟨DX7_numberOf_c0.2.2.2.2.1, rfl⟩
theorem dX7_numberOf_9 : Dc cX7_numberOf 9 (.imul) 1 10 := ⟨DX7_numberOf_c0.2.2.2.2.2.1, rfl⟩
theorem dX7_numberOf_10 : Dc cX7_numberOf 10 (.iadd) 1 11 := ⟨DX7_numberOf_c0.2.2.2.2.2.2.1, rfl⟩
theorem dX7_numberOf_11 : Dc cX7_numberOf 11 (.iconst 2) 1 12 := ⟨DX7_numberOf_c0.2.2.2.2.2.2.2.1, rfl⟩
theorem dX7_numberOf_12 : Dc cX7_numberOf 12 (.iadd) 1 13 := ⟨DX7_numberOf_c0.2.2.2.2.2.2.2.2.1, rfl⟩
theorem dX7_numberOf_13 : Dc cX7_numberOf 13 (.iconst 2) 1 14 := ⟨DX7_numberOf_c0.2.2.2.2.2.2.2.2.2.1, rfl⟩
theorem dX7_numberOf_14 : Dc cX7_numberOf 14 (.iload_n 2) 1 15 := ⟨DX7_numberOf_c0.2.2.2.2.2.2.2.2.2.2.1, rfl⟩
theorem dX7_numberOf_15 : Dc cX7_numberOf 15 (.imul) 1 16 := ⟨DX7_numberOf_c0.2.2.2.2.2.2.2.2.2.2.2.1, rfl⟩
theorem dX7_numberOf_16 : Dc cX7_numberOf 16 (.iadd) 1 17 := ⟨DX7_numberOf_c0.2.2.2.2.2.2.2.2.2.2.2.2.1, rfl⟩
theorem dX7_numberOf_17 : Dc cX7_numberOf 17 (.iaload) 1 18 := ⟨DX7_numberOf_c0.2.2.2.2.2.2.2.2.2.2.2.2.2.1, rfl⟩
theorem dX7_numberOf_18 : Dc cX7_numberOf 18 (.ireturn) 1 19 := ⟨DX7_numberOf_c0.2.2.2.2.2.2.2.2.2.2.2.2.2.2, rfl⟩
theorem DX7_copyState_c0 : decode cX7_copyState 0 = .ok (.iconst 0, 1) ∧ decode cX7_copyState 1 = .ok (.istore 4, 2) ∧ decode cX7_copyState 3 = .ok (.iload 4, 2) ∧ decode cX7_copyState 5 = .ok (.sipush 441, 3) ∧ decode cX7_copyState 8 = .ok (.if_icmp .ge 21, 3) ∧ decode cX7_copyState 11 = .ok (.aload_n 2, 1) ∧ decode cX7_copyState 12 = .ok (.iload_n 3, 1) ∧ decode cX7_copyState 13 = .ok (.iload 4, 2) ∧ decode cX7_copyState 15 = .ok (.iadd, 1) ∧ decode cX7_copyState 16 = .ok (.aload_n 0, 1) ∧ decode cX7_copyState 17 = .ok (.iload_n 1, 1) ∧ decode cX7_copyState 18 = .ok (.iload 4, 2) ∧ decode cX7_copyState 20 = .ok (.iadd, 1) ∧ decode cX7_copyState 21 = .ok (.iaload, 1) ∧ decode cX7_copyState 22 = .ok (.iastore, 1) ∧ decode cX7_copyState 23 = .ok (.iinc 4 1, 3) := by decide +kernel
theorem dX7_copyState_0 : Dc cX7_copyState 0 (.iconst 0) 1 1 := ⟨DX7_copyState_c0.1, rfl⟩
theorem dX7_copyState_1 : Dc cX7_copyState 1 (.istore 4) 2 3 := ⟨DX7_copyState_c0.2.1, rfl⟩
theorem dX7_copyState_3 : Dc cX7_copyState 3 (.iload 4) 2 5 := ⟨DX7_copyState_c0.2.2.1, rfl⟩
theorem dX7_copyState_5 : Dc cX7_copyState 5 (.sipush 441) 3 8 := ⟨DX7_copyState_c0.2.2.2.1, rfl⟩
theorem dX7_copyState_8 : Db cX7_copyState 8 (fun o => .if_icmp .ge o) 11 29 := ⟨21, DX7_copyState_c0.2.2.2.2.1, rfl, rfl⟩
theorem dX7_copyState_11 : Dc cX7_copyState 11 (.aload_n 2) 1 12 := ⟨DX7_copyState_c0.2.2.2.2.2.1, rfl⟩
theorem dX7_copyState_12 : Dc cX7_copyState 12 (.iload_n 3) 1 13 := ⟨DX7_copyState_c0.2.2.2.2.2.2.1, rfl⟩
theorem dX7_copyState_13 : Dc cX7_copyState 13 (.iload 4) 2 15 := ⟨DX7_copyState_c0.2.2.2.2.2.2.2.1, rfl⟩
theorem dX7_copyState_15 : Dc cX7_copyState 15 (.iadd) 1 16 := ⟨DX7_copyState_c0.2.2.2.2.2.2.2.2.1, rfl⟩
theorem dX7_copyState_16 : Dc cX7_copyState 16 (.aload_n 0) 1 17 := ⟨DX7_copyState_c0.2.2.2.2.2.2.2.2.2.1, rfl⟩
theorem dX7_copyState_17 : Dc cX7_copyState 17 (.iload_n 1) 1 18 := ⟨DX7_copyState_c0.2.2.2.2.2.2.2.2.2.2.1, rfl⟩
theorem dX7_copyState_18 : Dc cX7_copyState 18 (.iload 4) 2 20 := ⟨DX7_copyState_c0.2.2.2.2.2.2.2.2.2.2.2.1, rfl⟩
theorem dX7_copyState_20 : Dc cX7_copyState 20 (.iadd) 1 21 := ⟨DX7_copyState_c0.2.2.2.2.2.2.2.2.2.2.2.2.1, rfl⟩
theorem dX7_copyState_21 : Dc cX7_copyState 21 (.iaload) 1 22 := ⟨DX7_copyState_c0.2.2.2.2.2.2.2.2.2.2.2.2.2.1, rfl⟩
theorem dX7_copyState_22 : Dc cX7_copyState 22 (.iastore) 1 23 := ⟨DX7_copyState_c0.2.2.2.2.2.2.2.2.2.2.2.2.2.2.1, rfl⟩
theorem dX7_copyState_23 : Dc cX7_copyState 23 (.iinc 4 1) 3 26 := ⟨DX7_copyState_c0.2.2.2.2.2.2.2.2.2.2.2.2.2.2.2, rfl⟩
theorem DX7_copyState_c1 : decode cX7_copyState 26 = .ok (.goto (-23), 3) ∧ decode cX7_copyState 29 = .ok (.return_, 1) := by decide +kernel
theorem dX7_copyState_26 : Db cX7_copyState 26 .goto 29 3 := ⟨-23, DX7_copyState_c1.1, rfl, rfl⟩
theorem dX7_copyState_29 : Dc cX7_copyState 29 (.return_) 1 30 := ⟨DX7_copyState_c1.2, rfl⟩
theorem DX7_save_c0 : decode cX7_save 0 = .ok (.aload_n 0, 1) ∧ decode cX7_save 1 = .ok (.getfield 41, 3) ∧ decode cX7_save 4 = .ok (.iconst 4, 1) ∧ decode cX7_save 5 = .ok (.if_icmp .ne 44, 3) ∧ decode cX7_save 8 = .ok (.iconst 0, 1) ∧ decode cX7_save 9 = .ok (.istore_n 1, 1) ∧ decode cX7_save 10 = .ok (.iload_n 1, 1) ∧ decode cX7_save 11 = .ok (.sipush 1323, 3) ∧ decode cX7_save 14 = .ok (.if_icmp .ge 25, 3) ∧ decode cX7_save 17 = .ok (.aload_n 0, 1) ∧ decode cX7_save 18 = .ok (.getfield 16, 3) ∧ decode cX7_save 21 = .ok (.iload_n 1, 1) ∧ decode cX7_save 22 = .ok (.aload_n 0, 1) ∧ decode cX7_save 23 = .ok (.getfield 16, 3) ∧ decode cX7_save 26 = .ok (.iload_n 1, 1) ∧ decode cX7_save 27 = .ok (.sipush 441, 3) := by decide +kernel
theorem dX7_save_0 : Dc cX7_save 0 (.aload_n 0) 1 1 := ⟨DX7_save_c0.1, rfl⟩
theorem dX7_save_1 : Dc cX7_save 1 (.getfield 41) 3 4 := ⟨DX7_save_c0.2.1, rfl⟩
theorem dX7_save_4 : Dc cX7_save 4 (.iconst 4) 1 5 := ⟨DX7_save_c0.2.2.1, rfl⟩
theorem dX7_save_5 : Db cX7_save 5 (fun o => .if_icmp .ne o) 8 49 := ⟨44, DX7_save_c0.2.2.2.1, rfl, rfl⟩
theorem dX7_save_8 : Dc cX7_save 8 (.iconst 0) 1 9 := ⟨DX7_save_c0.2.2.2.2.1, rfl⟩
theorem dX7_save_9 : Dc cX7_save 9 (.istore_n 1) 1 10 := ⟨DX7_save_c0.2.2.2.2.2.1, rfl⟩
theorem dX7_save_10 : Dc cX7_save 10 (.iload_n 1) 1 11 := ⟨DX7_save_c0.2.2.2.2.2.2.1, rfl⟩
theorem dX7_save_11 : Dc cX7_save 11 (.sipush 1323) 3 14 := ⟨DX7_save_c0.2.2.2.2.2.2.2.1, rfl⟩
theorem dX7_save_14 : Db cX7_save 14 (fun o => .if_icmp .ge o) 17 39 := ⟨25, DX7_save_c0.2.2.2.2.2.2.2.2.1, rfl, rfl⟩
theorem dX7_save_17 : Dc cX7_save 17 (.aload_n 0) 1 18 := ⟨DX7_save_c0.2.2.2.2.2.2.2.2.2.1, rfl⟩
theorem dX7_save_18 : Dc cX7_save 18 (.getfield 16) 3 21 := ⟨DX7_save_c0.2.2.2.2.2.2.2.2.2.2.1, rfl⟩
theorem dX7_save_21 : Dc cX7_save 21 (.iload_n 1) 1 22 := ⟨DX7_save_c0.2.2.2.2.2.2.2.2.2.2.2.1, rfl⟩
theorem dX7_save_22 : Dc cX7_save 22 (.aload_n 0) 1 23 := ⟨DX7_save_c0.2.2.2.2.2.2.2.2.2.2.2.2.1, rfl⟩
theorem dX7_save_23 : Dc cX7_save 23 (.getfield 16) 3 26 := ⟨DX7_save_c0.2.2.2.2.2.2.2.2.2.2.2.2.2.1, rfl⟩
theorem dX7_save_26 : Dc cX7_save 26 (.iload_n 1) 1 27 := ⟨DX7_save_c0.2.2.2.2.2.2.2.2.2.2.2.2.2.2.1, rfl⟩
theorem dX7_save_27 : Dc cX7_save 27 (.sipush 441) 3 30 := ⟨DX7_save_c0.2.2.2.2.2.2.2.2.2.2.2.2.2.2.2, rfl⟩
theorem DX7_save_c1 : decode cX7_save 30 = .ok (.iadd, 1) ∧ decode cX7_save 31 = .ok (.iaload, 1) ∧ decode cX7_save 32 = .ok (.iastore, 1) ∧ decode cX7_save 33 = .ok (.iinc 1 1, 3) ∧ decode cX7_save 36 = .ok (.goto (-26), 3) ∧ decode cX7_save 39 = .ok (.aload_n 0, 1) ∧ decode cX7_save 40 = .ok (.dup, 1) ∧ decode cX7_save 41 = .ok (.getfield 41, 3) ∧ decode cX7_save 44 = .ok (.iconst 1, 1) ∧ decode cX7_save 45 = .ok (.isub, 1) ∧ decode cX7_save 46 = .ok (.putfield 41, 3) ∧ decode cX7_save 49 = .ok (.aload_n 0, 1) ∧ decode cX7_save 50 = .ok (.getfield 7, 3) ∧ decode cX7_save 53 = .ok (.iconst 0, 1) ∧ decode cX7_save 54 = .ok (.aload_n 0, 1) ∧ decode cX7_save 55 = .ok (.getfield 16, 3) := by decide +kernel
theorem dX7_save_30 : Dc cX7_save 30 (.iadd) 1 31 := ⟨DX7_save_c1.1, rfl⟩
theorem dX7_save_31 : Dc cX7_save 31 (.iaload) 1 32 := ⟨DX7_save_c1.2.1, rfl⟩
theorem dX7_save_32 : Dc cX7_save 32 (.iastore) 1 33 := ⟨DX7_save_c1.2.2.1, rfl⟩
theorem dX7_save_33 : Dc cX7_save 33 (.iinc 1 1) 3 36 := ⟨DX7_save_c1.2.2.2.1, rfl⟩
theorem dX7_save_36 : Db cX7_save 36 .goto 39 10 := ⟨-26, DX7_save_c1.2.2.2.2.1, rfl, rfl⟩
theorem dX7_save_39 : Dc cX7_save 39 (.aload_n 0) 1 40 := ⟨DX7_save_c1.2.2.2.2.2.1, rfl⟩
theorem dX7_save_40 : Dc cX7_save 40 (.dup) 1 41 := ⟨DX7_save_c1.2.2.2.2.2.2.1, rfl⟩
theorem dX7_save_41 : Dc cX7_save 41 (.getfield 41) 3 44 := ⟨DX7_save_c1.2.2.2.2.2.2.2.1, rfl⟩
theorem dX7_save_44 : Dc cX7_save 44 (.iconst 1) 1 45 := ⟨DX7_save_c1.2.2.2.2.2.2.2.2.1, rfl⟩
theorem dX7_save_45 : Dc cX7_save 45 (.isub) 1 46 := ⟨DX7_save_c1.2.2.2.2.2.2.2.2.2.1, rfl⟩
theorem dX7_save_46 : Dc cX7_save 46 (.putfield 41) 3 49 := ⟨DX7_save_c1.2.2.2.2.2.2.2.2.2.2.1, rfl⟩
theorem dX7_save_49 : Dc cX7_save 49 (.aload_n 0) 1 50 := ⟨DX7_save_c1.2.2.2.2.2.2.2.2.2.2.2.1, rfl⟩
theorem dX7_save_50 : Dc cX7_save 50 (.getfield 7) 3 53 := ⟨DX7_save_c1.2.2.2.2.2.2.2.2.2.2.2.2.1, rfl⟩
theorem dX7_save_53 : Dc cX7_save 53 (.iconst 0) 1 54 := ⟨DX7_save_c1.2.2.2.2.2.2.2.2.2.2.2.2.2.1, rfl⟩
theorem dX7_save_54 : Dc cX7_save 54 (.aload_n 0) 1 55 := ⟨DX7_save_c1.2.2.2.2.2.2.2.2.2.2.2.2.2.2.1, rfl⟩
theorem dX7_save_55 : Dc cX7_save 55 (.getfield 16) 3 58 := ⟨DX7_save_c1.2.2.2.2.2.2.2.2.2.2.2.2.2.2.2, rfl⟩
theorem DX7_save_c2 : decode cX7_save 58 = .ok (.sipush 441, 3) ∧ decode cX7_save 61 = .ok (.aload_n 0, 1) ∧ decode cX7_save 62 = .ok (.getfield 41, 3) ∧ decode cX7_save 65 = .ok (.imul, 1) ∧ decode cX7_save 66 = .ok (.invokestatic 45, 3) ∧ decode cX7_save 69 = .ok (.aload_n 0, 1) ∧ decode cX7_save 70 = .ok (.dup, 1) ∧ decode cX7_save 71 = .ok (.getfield 41, 3) ∧ decode cX7_save 74 = .ok (.iconst 1, 1) ∧ decode cX7_save 75 = .ok (.iadd, 1) ∧ decode cX7_save 76 = .ok (.putfield 41, 3) ∧ decode cX7_save 79 = .ok (.return_, 1) := by decide +kernel
theorem dX7_save_58 : Dc cX7_save 58 (.sipush 441) 3 61 := ⟨DX7_save_c2.1, rfl⟩
theorem dX7_save_61 : Dc cX7_save 61 (.aload_n 0) 1 62 := ⟨DX7_save_c2.2.1, rfl⟩
theorem dX7_save_62 : Dc cX7_save 62 (.getfield 41) 3 65 := ⟨DX7_save_c2.2.2.1, rfl⟩
theorem dX7_save_65 : Dc cX7_save 65 (.imul) 1 66 := ⟨DX7_save_c2.2.2.2.1, rfl⟩
theorem dX7_save_66 : Dc cX7_save 66 (.invokestatic 45) 3 69 := ⟨DX7_save_c2.2.2.2.2.1, rfl⟩
theorem dX7_save_69 : Dc cX7_save 69 (.aload_n 0) 1 70 := ⟨DX7_save_c2.2.2.2.2.2.1, rfl⟩
theorem dX7_save_70 : Dc cX7_save 70 (.dup) 1 71 := ⟨DX7_save_c2.2.2.2.2.2.2.1, rfl⟩
theorem dX7_save_71 : Dc cX7_save 71 (.getfield 41) 3 74 := ⟨DX7_save_c2.2.2.2.2.2.2.2.1, rfl⟩
theorem dX7_save_74 : Dc cX7_save 74 (.iconst 1) 1 75 := ⟨DX7_save_c2.2.2.2.2.2.2.2.2.1, rfl⟩
theorem dX7_save_75 : Dc cX7_save 75 (.iadd) 1 76 := ⟨DX7_save_c2.2.2.2.2.2.2.2.2.2.1, rfl⟩
theorem dX7_save_76 : Dc cX7_save 76 (.putfield 41) 3 79 := ⟨DX7_save_c2.2.2.2.2.2.2.2.2.2.2.1, rfl⟩
theorem dX7_save_79 : Dc cX7_save 79 (.return_) 1 80 := ⟨DX7_save_c2.2.2.2.2.2.2.2.2.2.2.2, rfl⟩
theorem DX7_undo_c0 : decode cX7_undo 0 = .ok (.aload_n 0, 1) ∧ decode cX7_undo 1 = .ok (.getfield 41, 3) ∧ decode cX7_undo 4 = .ok (.ifCond .ne 6, 3) ∧ decode cX7_undo 7 = .ok (.bipush (-5), 2) ∧ decode cX7_undo 9 = .ok (.ireturn, 1) ∧ decode cX7_undo 10 = .ok (.aload_n 0, 1) ∧ decode cX7_undo 11 = .ok (.dup, 1) ∧ decode cX7_undo 12 = .ok (.getfield 41, 3) ∧ decode cX7_undo 15 = .ok (.iconst 1, 1) ∧ decode cX7_undo 16 = .ok (.isub, 1) ∧ decode cX7_undo 17 = .ok (.putfield 41, 3) ∧ decode cX7_undo 20 = .ok (.aload_n 0, 1) ∧ decode cX7_undo 21 = .ok (.getfield 16, 3) ∧ decode cX7_undo 24 = .ok (.sipush 441, 3) ∧ decode cX7_undo 27 = .ok (.aload_n 0, 1) ∧ decode cX7_undo 28 = .ok (.getfield 41, 3) := by decide +kernel
theorem dX7_undo_0 : Dc cX7_undo 0 (.aload_n 0) 1 1 := ⟨DX7_undo_c0.1, rfl⟩
theorem dX7_undo_1 : Dc cX7_undo 1 (.getfield 41) 3 4 := ⟨DX7_undo_c0.2.1, rfl⟩
theorem dX7_undo_4 : Db cX7_undo 4 (fun o => .ifCond .ne o) 7 10 := ⟨6, DX7_undo_c0.2.2.1, rfl, rfl⟩
theorem dX7_undo_7 : Dc cX7_undo 7 (.bipush (-5)) 2 9 := ⟨DX7_undo_c0.2.2.2.1, rfl⟩
theorem dX7_undo_9 : Dc cX7_undo 9 (.ireturn) 1 10 := ⟨DX7_undo_c0.2.2.2.2.1, rfl⟩
theorem dX7_undo_10 : Dc cX7_undo 10 (.aload_n 0) 1 11 := ⟨DX7_undo_c0.2.2.2.2.2.1, rfl⟩
theorem dX7_undo_11 : Dc cX7_undo 11 (.dup) 1 12 := ⟨DX7_undo_c0.2.2.2.2.2.2.1, rfl⟩
theorem dX7_undo_12 : Dc cX7_undo 12 (.getfield 41) 3 15 := ⟨DX7_undo_c0.2.2.2.2.2.2.2.1, rfl⟩
theorem dX7_undo_15 : Dc cX7_undo 15 (.iconst 1) 1 16 := ⟨DX7_undo_c0.2.2.2.2.2.2.2.2.1, rfl⟩
theorem dX7_undo_16 : Dc cX7_undo 16 (.isub) 1 17 := ⟨DX7_undo_c0.2.2.2.2.2.2.2.2.2.1, rfl⟩
theorem dX7_undo_17 : Dc cX7_undo 17 (.putfield 41) 3 20 := ⟨DX7_undo_c0.2.2.2.2.2.2.2.2.2.2.1, rfl⟩
theorem dX7_undo_20 : Dc cX7_undo 20 (.aload_n 0) 1 21 := ⟨DX7_undo_c0.2.2.2.2.2.2.2.2.2.2.2.1, rfl⟩
theorem dX7_undo_21 : Dc cX7_undo 21 (.getfield 16) 3 24 := ⟨DX7_undo_c0.2.2.2.2.2.2.2.2.2.2.2.2.1, rfl⟩
theorem dX7_undo_24 : Dc cX7_undo 24 (.sipush 441) 3 27 := ⟨DX7_undo_c0.2.2.2.2.2.2.2.2.2.2.2.2.2.1, rfl⟩
theorem dX7_undo_27 : Dc cX7_undo 27 (.aload_n 0) 1 28 := ⟨DX7_undo_c0.2.2.2.2.2.2.2.2.2.2.2.2.2.2.1, rfl⟩
theorem dX7_undo_28 : Dc cX7_undo 28 (.getfield 41) 3 31 := ⟨DX7_undo_c0.2.2.2.2.2.2.2.2.2.2.2.2.2.2.2, rfl⟩
theorem DX7_undo_c1 : decode cX7_undo 31 = .ok (.imul, 1) ∧ decode cX7_undo 32 = .ok (.aload_n 0, 1) ∧ decode cX7_undo 33 = .ok (.getfield 7, 3) ∧ decode cX7_undo 36 = .ok (.iconst 0, 1) ∧ decode cX7_undo 37 = .ok (.invokestatic 45, 3) ∧ decode cX7_undo 40 = .ok (.aload_n 0, 1) ∧ decode cX7_undo 41 = .ok (.getfield 41, 3) ∧ decode cX7_undo 44 = .ok (.ireturn, 1) := by decide +kernel
theorem dX7_undo_31 : Dc cX7_undo 31 (.imul) 1 32 := ⟨DX7_undo_c1.1, rfl⟩
theorem dX7_undo_32 : Dc cX7_undo 32 (.aload_n 0) 1 33 := ⟨DX7_undo_c1.2.1, rfl⟩
theorem dX7_undo_33 : Dc cX7_undo 33 (.getfield 7) 3 36 := ⟨DX7_undo_c1.2.2.1, rfl⟩
theorem dX7_undo_36 : Dc cX7_undo 36 (.iconst 0) 1 37 := ⟨DX7_undo_c1.2.2.2.1, rfl⟩
theorem dX7_undo_37 : Dc cX7_undo 37 (.invokestatic 45) 3 40 := ⟨DX7_undo_c1.2.2.2.2.1, rfl⟩
theorem dX7_undo_40 : Dc cX7_undo 40 (.aload_n 0) 1 41 := ⟨DX7_undo_c1.2.2.2.2.2.1, rfl⟩
theorem dX7_undo_41 : Dc cX7_undo 41 (.getfield 41) 3 44 := ⟨DX7_undo_c1.2.2.2.2.2.2.1, rfl⟩
theorem dX7_undo_44 : Dc cX7_undo 44 (.ireturn) 1 45 := ⟨DX7_undo_c1.2.2.2.2.2.2.2, rfl⟩
theorem DX7_keep_c0 : decode cX7_keep 0 = .ok (.aload_n 0, 1) ∧ decode cX7_keep 1 = .ok (.getfield 7, 3) ∧ decode cX7_keep 4 = .ok (.iconst 0, 1) ∧ decode cX7_keep 5 = .ok (.aload_n 0, 1) ∧ decode cX7_keep 6 = .ok (.getfield 19, 3) ∧ decode cX7_keep 9 = .ok (.iconst 0, 1) ∧ decode cX7_keep 10 = .ok (.invokestatic 45, 3) ∧ decode cX7_keep 13 = .ok (.aload_n 0, 1) ∧ decode cX7_keep 14 = .ok (.iconst 1, 1) ∧ decode cX7_keep 15 = .ok (.putfield 49, 3) ∧ decode cX7_keep 18 = .ok (.aload_n 0, 1) ∧ decode cX7_keep 19 = .ok (.getfield 7, 3) ∧ decode cX7_keep 22 = .ok (.bipush 31, 2) ∧ decode cX7_keep 24 = .ok (.iaload, 1) ∧ decode cX7_keep 25 = .ok (.ireturn, 1) := by decide +kernel
theorem dX7_keep_0 : Dc cX7_keep 0 (.aload_n 0) 1 1 := ⟨DX7_keep_c0.1, rfl⟩
theorem dX7_keep_1 : Dc cX7_keep 1 (.getfield 7) 3 4 := ⟨DX7_keep_c0.2.1, rfl⟩
theorem dX7_keep_4 : Dc cX7_keep 4 (.iconst 0) 1 5 := ⟨DX7_keep_c0.2.2.1, rfl⟩
theorem dX7_keep_5 : Dc cX7_keep 5 (.aload_n 0) 1 6 := ⟨DX7_keep_c0.2.2.2.1, rfl⟩
theorem dX7_keep_6 : Dc cX7_keep 6 (.getfield 19) 3 9 := ⟨DX7_keep_c0.2.2.2.2.1, rfl⟩
theorem dX7_keep_9 : Dc cX7_keep 9 (.iconst 0) 1 10 := ⟨DX7_keep_c0.2.2.2.2.2.1, rfl⟩
theorem dX7_keep_10 : Dc cX7_keep 10 (.invokestatic 45) 3 13 := ⟨DX7_keep_c0.2.2.2.2.2.2.1, rfl⟩
theorem dX7_keep_13 : Dc cX7_keep 13 (.aload_n 0) 1 14 := ⟨DX7_keep_c0.2.2.2.2.2.2.2.1, rfl⟩
theorem dX7_keep_14 : Dc cX7_keep 14 (.iconst 1) 1 15 := ⟨DX7_keep_c0.2.2.2.2.2.2.2.2.1, rfl⟩
theorem dX7_keep_15 : Dc cX7_keep 15 (.putfield 49) 3 18 := ⟨DX7_keep_c0.2.2.2.2.2.2.2.2.2.1, rfl⟩
theorem dX7_keep_18 : Dc cX7_keep 18 (.aload_n 0) 1 19 := ⟨DX7_keep_c0.2.2.2.2.2.2.2.2.2.2.1, rfl⟩
theorem dX7_keep_19 : Dc cX7_keep 19 (.getfield 7) 3 22 := ⟨DX7_keep_c0.2.2.2.2.2.2.2.2.2.2.2.1, rfl⟩
theorem dX7_keep_22 : Dc cX7_keep 22 (.bipush 31) 2 24 := ⟨DX7_keep_c0.2.2.2.2.2.2.2.2.2.2.2.2.1, rfl⟩
theorem dX7_keep_24 : Dc cX7_keep 24 (.iaload) 1 25 := ⟨DX7_keep_c0.2.2.2.2.2.2.2.2.2.2.2.2.2.1, rfl⟩
theorem dX7_keep_25 : Dc cX7_keep 25 (.ireturn) 1 26 := ⟨DX7_keep_c0.2.2.2.2.2.2.2.2.2.2.2.2.2.2, rfl⟩
theorem DX7_restore_c0 : decode cX7_restore 0 = .ok (.aload_n 0, 1) ∧ decode cX7_restore 1 = .ok (.getfield 49, 3) ∧ decode cX7_restore 4 = .ok (.ifCond .ne 6, 3) ∧ decode cX7_restore 7 = .ok (.bipush (-5), 2) ∧ decode cX7_restore 9 = .ok (.ireturn, 1) ∧ decode cX7_restore 10 = .ok (.aload_n 0, 1) ∧ decode cX7_restore 11 = .ok (.invokevirtual 53, 3) ∧ decode cX7_restore 14 = .ok (.aload_n 0, 1) ∧ decode cX7_restore 15 = .ok (.getfield 19, 3) ∧ decode cX7_restore 18 = .ok (.iconst 0, 1) ∧ decode cX7_restore 19 = .ok (.aload_n 0, 1) ∧ decode cX7_restore 20 = .ok (.getfield 7, 3) ∧ decode cX7_restore 23 = .ok (.iconst 0, 1) ∧ decode cX7_restore 24 = .ok (.invokestatic 45, 3) ∧ decode cX7_restore 27 = .ok (.aload_n 0, 1) ∧ decode cX7_restore 28 = .ok (.getfield 7, 3) := by decide +kernel
theorem dX7_restore_0 : Dc cX7_restore 0 (.aload_n 0) 1 1 := ⟨DX7_restore_c0.1, rfl⟩
theorem dX7_restore_1 : Dc cX7_restore 1 (.getfield 49) 3 4 := ⟨DX7_restore_c0.2.1, rfl⟩
theorem dX7_restore_4 : Db cX7_restore 4 (fun o => .ifCond .ne o) 7 10 := ⟨6, DX7_restore_c0.2.2.1, rfl, rfl⟩
theorem dX7_restore_7 : Dc cX7_restore 7 (.bipush (-5)) 2 9 := ⟨DX7_restore_c0.2.2.2.1, rfl⟩
theorem dX7_restore_9 : Dc cX7_restore 9 (.ireturn) 1 10 := ⟨DX7_restore_c0.2.2.2.2.1, rfl⟩
theorem dX7_restore_10 : Dc cX7_restore 10 (.aload_n 0) 1 11 := ⟨DX7_restore_c0.2.2.2.2.2.1, rfl⟩
theorem dX7_restore_11 : Dc cX7_restore 11 (.invokevirtual 53) 3 14 := ⟨DX7_restore_c0.2.2.2.2.2.2.1, rfl⟩
theorem dX7_restore_14 : Dc cX7_restore 14 (.aload_n 0) 1 15 := ⟨DX7_restore_c0.2.2.2.2.2.2.2.1, rfl⟩
theorem dX7_restore_15 : Dc cX7_restore 15 (.getfield 19) 3 18 := ⟨DX7_restore_c0.2.2.2.2.2.2.2.2.1, rfl⟩
theorem dX7_restore_18 : Dc cX7_restore 18 (.iconst 0) 1 19 := ⟨DX7_restore_c0.2.2.2.2.2.2.2.2.2.1, rfl⟩
theorem dX7_restore_19 : Dc cX7_restore 19 (.aload_n 0) 1 20 := ⟨DX7_restore_c0.2.2.2.2.2.2.2.2.2.2.1, rfl⟩
theorem dX7_restore_20 : Dc cX7_restore 20 (.getfield 7) 3 23 := ⟨DX7_restore_c0.2.2.2.2.2.2.2.2.2.2.2.1, rfl⟩
theorem dX7_restore_23 : Dc cX7_restore 23 (.iconst 0) 1 24 := ⟨DX7_restore_c0.2.2.2.2.2.2.2.2.2.2.2.2.1, rfl⟩
theorem dX7_restore_24 : Dc cX7_restore 24 (.invokestatic 45) 3 27 := ⟨DX7_restore_c0.2.2.2.2.2.2.2.2.2.2.2.2.2.1, rfl⟩
theorem dX7_restore_27 : Dc cX7_restore 27 (.aload_n 0) 1 28 := ⟨DX7_restore_c0.2.2.2.2.2.2.2.2.2.2.2.2.2.2.1, rfl⟩
theorem dX7_restore_28 : Dc cX7_restore 28 (.getfield 7) 3 31 := ⟨DX7_restore_c0.2.2.2.2.2.2.2.2.2.2.2.2.2.2.2, rfl⟩
theorem DX7_restore_c1 : decode cX7_restore 31 = .ok (.bipush 31, 2) ∧ decode cX7_restore 33 = .ok (.iaload, 1) ∧ decode cX7_restore 34 = .ok (.ireturn, 1) := by decide +kernel
theorem dX7_restore_31 : Dc cX7_restore 31 (.bipush 31) 2 33 := ⟨DX7_restore_c1.1, rfl⟩
theorem dX7_restore_33 : Dc cX7_restore 33 (.iaload) 1 34 := ⟨DX7_restore_c1.2.1, rfl⟩
theorem dX7_restore_34 : Dc cX7_restore 34 (.ireturn) 1 35 := ⟨DX7_restore_c1.2.2, rfl⟩
theorem DX7_doStep_c0 : decode cX7_doStep 0 = .ok (.aload_n 0, 1) ∧ decode cX7_doStep 1 = .ok (.getfield 7, 3) ∧ decode cX7_doStep 4 = .ok (.bipush 30, 2) ∧ decode cX7_doStep 6 = .ok (.iaload, 1) ∧ decode cX7_doStep 7 = .ok (.istore_n 3, 1) ∧ decode cX7_doStep 8 = .ok (.aload_n 0, 1) ∧ decode cX7_doStep 9 = .ok (.getfield 7, 3) ∧ decode cX7_doStep 12 = .ok (.iload_n 3, 1) ∧ decode cX7_doStep 13 = .ok (.iaload, 1) ∧ decode cX7_doStep 14 = .ok (.istore 4, 2) ∧ decode cX7_doStep 16 = .ok (.aload_n 0, 1) ∧ decode cX7_doStep 17 = .ok (.getfield 7, 3) ∧ decode cX7_doStep 20 = .ok (.bipush 34, 2) ∧ decode cX7_doStep 22 = .ok (.dup2, 1) ∧ decode cX7_doStep 23 = .ok (.iaload, 1) ∧ decode cX7_doStep 24 = .ok (.iconst 1, 1) := by decide +kernel
theorem dX7_doStep_0 : Dc cX7_doStep 0 (.aload_n 0) 1 1 := ⟨DX7_doStep_c0.1, rfl⟩
theorem dX7_doStep_1 : Dc cX7_doStep 1 (.getfield 7) 3 4 := ⟨DX7_doStep_c0.2.1, rfl⟩
theorem dX7_doStep_4 : Dc cX7_doStep 4 (.bipush 30) 2 6 := ⟨DX7_doStep_c0.2.2.1, rfl⟩
theorem dX7_doStep_6 : Dc cX7_doStep 6 (.iaload) 1 7 := ⟨DX7_doStep_c0.2.2.2.1, rfl⟩
theorem dX7_doStep_7 : Dc cX7_doStep 7 (.istore_n 3) 1 8 := ⟨DX7_doStep_c0.2.2.2.2.1, rfl⟩
theorem dX7_doStep_8 : Dc cX7_doStep 8 (.aload_n 0) 1 9 := ⟨DX7_doStep_c0.2.2.2.2.2.1, rfl⟩
theorem dX7_doStep_9 : Dc cX7_doStep 9 (.getfield 7) 3 12 := ⟨DX7_doStep_c0.2.2.2.2.2.2.1, rfl⟩
theorem dX7_doStep_12 : Dc cX7_doStep 12 (.iload_n 3) 1 13 := ⟨DX7_doStep_c0.2.2.2.2.2.2.2.1, rfl⟩
theorem dX7_doStep_13 : Dc cX7_doStep 13 (.iaload) 1 14 := ⟨DX7_doStep_c0.2.2.2.2.2.2.2.2.1, rfl⟩
theorem dX7_doStep_14 : Dc cX7_doStep 14 (.istore 4) 2 16 := ⟨DX7_doStep_c0.2.2.2.2.2.2.2.2.2.1, rfl⟩
theorem dX7_doStep_16 : Dc cX7_doStep 16 (.aload_n 0) 1 17 := ⟨DX7_doStep_c0.2.2.2.2.2.2.2.2.2.2.1, rfl⟩
theorem dX7_doStep_17 : Dc cX7_doStep 17 (.getfield 7) 3 20 := ⟨DX7_doStep_c0.2.2.2.2.2.2.2.2.2.2.2.1, rfl⟩
theorem dX7_doStep_20 : Dc cX7_doStep 20 (.bipush 34) 2 22 := ⟨DX7_doStep_c0.2.2.2.2.2.2.2.2.2.2.2.2.1, rfl⟩
theorem dX7_doStep_22 : Dc cX7_doStep 22 (.dup2) 1 23 := ⟨DX7_doStep_c0.2.2.2.2.2.2.2.2.2.2.2.2.2.1, rfl⟩
theorem dX7_doStep_23 : Dc cX7_doStep 23 (.iaload) 1 24 := ⟨DX7_doStep_c0.2.2.2.2.2.2.2.2.2.2.2.2.2.2.1, rfl⟩
theorem dX7_doStep_24 : Dc cX7_doStep 24 (.iconst 1) 1 25 := ⟨DX7_doStep_c0.2.2.2.2.2.2.2.2.2.2.2.2.2.2.2, rfl⟩
theorem DX7_doStep_c1 : decode cX7_doStep 25 = .ok (.iadd, 1) ∧ decode cX7_doStep 26 = .ok (.iastore, 1) ∧ decode cX7_doStep 27 = .ok (.iload_n 1, 1) ∧ decode cX7_doStep 28 = .ok (.tableswitch 106 0 4 #[36, 46, 55, 70, 84], 36) ∧ decode cX7_doStep 64 = .ok (.aload_n 0, 1) ∧ decode cX7_doStep 65 = .ok (.getfield 7, 3) ∧ decode cX7_doStep 68 = .ok (.bipush 30, 2) ∧ decode cX7_doStep 70 = .ok (.iload_n 2, 1) ∧ decode cX7_doStep 71 = .ok (.iastore, 1) ∧ decode cX7_doStep 72 = .ok (.iconst 1, 1) ∧ decode cX7_doStep 73 = .ok (.ireturn, 1) ∧ decode cX7_doStep 74 = .ok (.aload_n 0, 1) ∧ decode cX7_doStep 75 = .ok (.getfield 7, 3) ∧ decode cX7_doStep 78 = .ok (.iload_n 3, 1) ∧ decode cX7_doStep 79 = .ok (.iload_n 2, 1) ∧ decode cX7_doStep 80 = .ok (.iastore, 1) := by decide +kernel
theorem dX7_doStep_25 : Dc cX7_doStep 25 (.iadd) 1 26 := ⟨DX7_doStep_c1.1, rfl⟩
theorem dX7_doStep_26 : Dc cX7_doStep 26 (.iastore) 1 27 := ⟨DX7_doStep_c1.2.1, rfl⟩
theorem dX7_doStep_27 : Dc cX7_doStep 27 (.iload_n 1) 1 28 := ⟨DX7_doStep_c1.2.2.1, rfl⟩
theorem dX7_doStep_28 : decode cX7_doStep 28 = .ok (.tableswitch 106 0 4 #[36, 46, 55, 70, 84], 36) := DX7_doStep_c1.2.2.2.1
theorem dX7_doStep_64 : Dc cX7_doStep 64 (.aload_n 0) 1 65 := ⟨DX7_doStep_c1.2.2.2.2.1, rfl⟩
theorem dX7_doStep_65 : Dc cX7_doStep 65 (.getfield 7) 3 68 := ⟨DX7_doStep_c1.2.2.2.2.2.1, rfl⟩
theorem dX7_doStep_68 : Dc cX7_doStep 68 (.bipush 30) 2 70 := ⟨DX7_doStep_c1.2.2.2.2.2.2.1, rfl⟩
theorem dX7_doStep_70 : Dc cX7_doStep 70 (.iload_n 2) 1 71 := ⟨DX7_doStep_c1.2.2.2.2.2.2.2.1, rfl⟩
theorem dX7_doStep_71 : Dc cX7_doStep 71 (.iastore) 1 72 := ⟨DX7_doStep_c1.2.2.2.2.2.2.2.2.1, rfl⟩
theorem dX7_doStep_72 : Dc cX7_doStep 72 (.iconst 1) 1 73 := ⟨DX7_doStep_c1.2.2.2.2.2.2.2.2.2.1, rfl⟩
theorem dX7_doStep_73 : Dc cX7_doStep 73 (.ireturn) 1 74 := ⟨DX7_doStep_c1.2.2.2.2.2.2.2.2.2.2.1, rfl⟩
theorem dX7_doStep_74 : Dc cX7_doStep 74 (.aload_n 0) 1 75 := ⟨DX7_doStep_c1.2.2.2.2.2.2.2.2.2.2.2.1, rfl⟩
theorem dX7_doStep_75 : Dc cX7_doStep 75 (.getfield 7) 3 78 := ⟨DX7_doStep_c1.2.2.2.2.2.2.2.2.2.2.2.2.1, rfl⟩
theorem dX7_doStep_78 : Dc cX7_doStep 78 (.iload_n 3) 1 79 := ⟨DX7_doStep_c1.2.2.2.2.2.2.2.2.2.2.2.2.2.1, rfl⟩
theorem dX7_doStep_79 : Dc cX7_doStep 79 (.iload_n 2) 1 80 := ⟨DX7_doStep_c1.2.2.2.2.2.2.2.2.2.2.2.2.2.2.1, rfl⟩
theorem dX7_doStep_80 : Dc cX7_doStep 80 (.iastore) 1 81 := ⟨DX7_doStep_c1.2.2.2.2.2.2.2.2.2.2.2.2.2.2.2, rfl⟩
theorem DX7_doStep_c2 : decode cX7_doStep 81 = .ok (.iconst 1, 1) ∧ decode cX7_doStep 82 = .ok (.ireturn, 1) ∧ decode cX7_doStep 83 = .ok (.aload_n 0, 1) ∧ decode cX7_doStep 84 = .ok (.getfield 7, 3) ∧ decode cX7_doStep 87 = .ok (.iload_n 3, 1) ∧ decode cX7_doStep 88 = .ok (.iload 4, 2) ∧ decode cX7_doStep 90 = .ok (.iload_n 2, 1) ∧ decode cX7_doStep 91 = .ok (.iadd, 1) ∧ decode cX7_doStep 92 = .ok (.bipush 100, 2) ∧ decode cX7_doStep 94 = .ok (.irem, 1) ∧ decode cX7_doStep 95 = .ok (.iastore, 1) ∧ decode cX7_doStep 96 = .ok (.iconst 1, 1) ∧ decode cX7_doStep 97 = .ok (.ireturn, 1) ∧ decode cX7_doStep 98 = .ok (.aload_n 0, 1) ∧ decode cX7_doStep 99 = .ok (.getfield 7, 3) ∧ decode cX7_doStep 102 = .ok (.iload_n 3, 1) := by decide +kernel
theorem dX7_doStep_81 : Dc cX7_doStep 81 (.iconst 1) 1 82 := ⟨DX7_doStep_c2.1, rfl⟩
theorem dX7_doStep_82 : Dc cX7_doStep 82 (.ireturn) 1 83 := ⟨DX7_doStep_c2.2.1, rfl⟩
theorem dX7_doStep_83 : Dc cX7_doStep 83 (.aload_n 0) 1 84 := ⟨DX7_doStep_c2.2.2.1, rfl⟩
theorem dX7_doStep_84 : Dc cX7_doStep 84 (.getfield 7) 3 87 := ⟨DX7_doStep_c2.2.2.2.1, rfl⟩
theorem dX7_doStep_87 : Dc cX7_doStep 87 (.iload_n 3) 1 88 := ⟨DX7_doStep_c2.2.2.2.2.1, rfl⟩
theorem dX7_doStep_88 : Dc cX7_doStep 88 (.iload 4) 2 90 := ⟨DX7_doStep_c2.2.2.2.2.2.1, rfl⟩
theorem dX7_doStep_90 : Dc cX7_doStep 90 (.iload_n 2) 1 91 := ⟨DX7_doStep_c2.2.2.2.2.2.2.1, rfl⟩
theorem dX7_doStep_91 : Dc cX7_doStep 91 (.iadd) 1 92 := ⟨DX7_doStep_c2.2.2.2.2.2.2.2.1, rfl⟩
theorem dX7_doStep_92 : Dc cX7_doStep 92 (.bipush 100) 2 94 := ⟨DX7_doStep_c2.2.2.2.2.2.2.2.2.1, rfl⟩
theorem dX7_doStep_94 : Dc cX7_doStep 94 (.irem) 1 95 := ⟨DX7_doStep_c2.2.2.2.2.2.2.2.2.2.1, rfl⟩
theorem dX7_doStep_95 : Dc cX7_doStep 95 (.iastore) 1 96 := ⟨DX7_doStep_c2.2.2.2.2.2.2.2.2.2.2.1, rfl⟩
theorem dX7_doStep_96 : Dc cX7_doStep 96 (.iconst 1) 1 97 := ⟨DX7_doStep_c2.2.2.2.2.2.2.2.2.2.2.2.1, rfl⟩
theorem dX7_doStep_97 : Dc cX7_doStep 97 (.ireturn) 1 98 := ⟨DX7_doStep_c2.2.2.2.2.2.2.2.2.2.2.2.2.1, rfl⟩
theorem dX7_doStep_98 : Dc cX7_doStep 98 (.aload_n 0) 1 99 := ⟨DX7_doStep_c2.2.2.2.2.2.2.2.2.2.2.2.2.2.1, rfl⟩
theorem dX7_doStep_99 : Dc cX7_doStep 99 (.getfield 7) 3 102 := ⟨DX7_doStep_c2.2.2.2.2.2.2.2.2.2.2.2.2.2.2.1, rfl⟩
theorem dX7_doStep_102 : Dc cX7_doStep 102 (.iload_n 3) 1 103 := ⟨DX7_doStep_c2.2.2.2.2.2.2.2.2.2.2.2.2.2.2.2, rfl⟩
theorem DX7_doStep_c3 : decode cX7_doStep 103 = .ok (.aload_n 0, 1) ∧ decode cX7_doStep 104 = .ok (.getfield 7, 3) ∧ decode cX7_doStep 107 = .ok (.iload_n 2, 1) ∧ decode cX7_doStep 108 = .ok (.iaload, 1) ∧ decode cX7_doStep 109 = .ok (.iastore, 1) ∧ decode cX7_doStep 110 = .ok (.iconst 1, 1) ∧ decode cX7_doStep 111 = .ok (.ireturn, 1) ∧ decode cX7_doStep 112 = .ok (.aload_n 0, 1) ∧ decode cX7_doStep 113 = .ok (.getfield 7, 3) ∧ decode cX7_doStep 116 = .ok (.iload_n 3, 1) ∧ decode cX7_doStep 117 = .ok (.aload_n 0, 1) ∧ decode cX7_doStep 118 = .ok (.getfield 7, 3) ∧ decode cX7_doStep 121 = .ok (.iload_n 2, 1) ∧ decode cX7_doStep 122 = .ok (.iaload, 1) ∧ decode cX7_doStep 123 = .ok (.iastore, 1) ∧ decode cX7_doStep 124 = .ok (.aload_n 0, 1) := by decide +kernel
theorem dX7_doStep_103 : Dc cX7_doStep 103 (.aload_n 0) 1 104 := ⟨DX7_doStep_c3.1, rfl⟩
theorem dX7_doStep_104 : Dc cX7_doStep 104 (.getfield 7) 3 107 := ⟨DX7_doStep_c3.2.1, rfl⟩
theorem dX7_doStep_107 : Dc cX7_doStep 107 (.iload_n 2) 1 108 := ⟨DX7_doStep_c3.2.2.1, rfl⟩
theorem dX7_doStep_108 : Dc cX7_doStep 108 (.iaload) 1 109 := ⟨DX7_doStep_c3.2.2.2.1, rfl⟩
theorem dX7_doStep_109 : Dc cX7_doStep 109 (.iastore) 1 110 := ⟨DX7_doStep_c3.2.2.2.2.1, rfl⟩
theorem dX7_doStep_110 : Dc cX7_doStep 110 (.iconst 1) 1 111 := ⟨DX7_doStep_c3.2.2.2.2.2.1, rfl⟩
theorem dX7_doStep_111 : Dc cX7_doStep 111 (.ireturn) 1 112 := ⟨DX7_doStep_c3.2.2.2.2.2.2.1, rfl⟩
theorem dX7_doStep_112 : Dc cX7_doStep 112 (.aload_n 0) 1 113 := ⟨DX7_doStep_c3.2.2.2.2.2.2.2.1, rfl⟩
theorem dX7_doStep_113 : Dc cX7_doStep 113 (.getfield 7) 3 116 := ⟨DX7_doStep_c3.2.2.2.2.2.2.2.2.1, rfl⟩
theorem dX7_doStep_116 : Dc cX7_doStep 116 (.iload_n 3) 1 117 := ⟨DX7_doStep_c3.2.2.2.2.2.2.2.2.2.1, rfl⟩
theorem dX7_doStep_117 : Dc cX7_doStep 117 (.aload_n 0) 1 118 := ⟨DX7_doStep_c3.2.2.2.2.2.2.2.2.2.2.1, rfl⟩
theorem dX7_doStep_118 : Dc cX7_doStep 118 (.getfield 7) 3 121 := ⟨DX7_doStep_c3.2.2.2.2.2.2.2.2.2.2.2.1, rfl⟩
theorem dX7_doStep_121 : Dc cX7_doStep 121 (.iload_n 2) 1 122 := ⟨DX7_doStep_c3.2.2.2.2.2.2.2.2.2.2.2.2.1, rfl⟩
theorem dX7_doStep_122 : Dc cX7_doStep 122 (.iaload) 1 123 := ⟨DX7_doStep_c3.2.2.2.2.2.2.2.2.2.2.2.2.2.1, rfl⟩
theorem dX7_doStep_123 : Dc cX7_doStep 123 (.iastore) 1 124 := ⟨DX7_doStep_c3.2.2.2.2.2.2.2.2.2.2.2.2.2.2.1, rfl⟩
theorem dX7_doStep_124 : Dc cX7_doStep 124 (.aload_n 0) 1 125 := ⟨DX7_doStep_c3.2.2.2.2.2.2.2.2.2.2.2.2.2.2.2, rfl⟩
theorem DX7_doStep_c4 : decode cX7_doStep 125 = .ok (.getfield 7, 3) ∧ decode cX7_doStep 128 = .ok (.iload_n 2, 1) ∧ decode cX7_doStep 129 = .ok (.iload 4, 2) ∧ decode cX7_doStep 131 = .ok (.iastore, 1) ∧ decode cX7_doStep 132 = .ok (.iconst 1, 1) ∧ decode cX7_doStep 133 = .ok (.ireturn, 1) ∧ decode cX7_doStep 134 = .ok (.aload_n 0, 1) ∧ decode cX7_doStep 135 = .ok (.getfield 7, 3) ∧ decode cX7_doStep 138 = .ok (.bipush 35, 2) ∧ decode cX7_doStep 140 = .ok (.dup2, 1) ∧ decode cX7_doStep 141 = .ok (.iaload, 1) ∧ decode cX7_doStep 142 = .ok (.iload 4, 2) ∧ decode cX7_doStep 144 = .ok (.iload_n 2, 1) ∧ decode cX7_doStep 145 = .ok (.if_icmp .le 7, 3) ∧ decode cX7_doStep 148 = .ok (.iconst 1, 1) ∧ decode cX7_doStep 149 = .ok (.goto 4, 3) := by decide +kernel
theorem dX7_doStep_125 : Dc cX7_doStep 125 (.getfield 7) 3 128 := ⟨DX7_doStep_c4.1, rfl⟩
theorem dX7_doStep_128 : Dc cX7_doStep 128 (.iload_n 2) 1 129 := ⟨DX7_doStep_c4.2.1, rfl⟩
theorem dX7_doStep_129 : Dc cX7_doStep 129 (.iload 4) 2 131 := ⟨DX7_doStep_c4.2.2.1, rfl⟩
theorem dX7_doStep_131 : Dc cX7_doStep 131 (.iastore) 1 132 := ⟨DX7_doStep_c4.2.2.2.1, rfl⟩
theorem dX7_doStep_132 : Dc cX7_doStep 132 (.iconst 1) 1 133 := ⟨DX7_doStep_c4.2.2.2.2.1, rfl⟩
theorem dX7_doStep_133 : Dc cX7_doStep 133 (.ireturn) 1 134 := ⟨DX7_doStep_c4.2.2.2.2.2.1, rfl⟩
theorem dX7_doStep_134 : Dc cX7_doStep 134 (.aload_n 0) 1 135 := ⟨DX7_doStep_c4.2.2.2.2.2.2.1, rfl⟩
theorem dX7_doStep_135 : Dc cX7_doStep 135 (.getfield 7) 3 138 := ⟨DX7_doStep_c4.2.2.2.2.2.2.2.1, rfl⟩
theorem dX7_doStep_138 : Dc cX7_doStep 138 (.bipush 35) 2 140 := ⟨DX7_doStep_c4.2.2.2.2.2.2.2.2.1, rfl⟩
theorem dX7_doStep_140 : Dc cX7_doStep 140 (.dup2) 1 141 := ⟨DX7_doStep_c4.2.2.2.2.2.2.2.2.2.1, rfl⟩
theorem dX7_doStep_141 : Dc cX7_doStep 141 (.iaload) 1 142 := ⟨DX7_doStep_c4.2.2.2.2.2.2.2.2.2.2.1, rfl⟩
theorem dX7_doStep_142 : Dc cX7_doStep 142 (.iload 4) 2 144 := ⟨DX7_doStep_c4.2.2.2.2.2.2.2.2.2.2.2.1, rfl⟩
theorem dX7_doStep_144 : Dc cX7_doStep 144 (.iload_n 2) 1 145 := ⟨DX7_doStep_c4.2.2.2.2.2.2.2.2.2.2.2.2.1, rfl⟩
theorem dX7_doStep_145 : Db cX7_doStep 145 (fun o => .if_icmp .le o) 148 152 := ⟨7, DX7_doStep_c4.2.2.2.2.2.2.2.2.2.2.2.2.2.1, rfl, rfl⟩
theorem dX7_doStep_148 : Dc cX7_doStep 148 (.iconst 1) 1 149 := ⟨DX7_doStep_c4.2.2.2.2.2.2.2.2.2.2.2.2.2.2.1, rfl⟩
theorem dX7_doStep_149 : Db cX7_doStep 149 .goto 152 153 := ⟨4, DX7_doStep_c4.2.2.2.2.2.2.2.2.2.2.2.2.2.2.2, rfl, rfl⟩
theorem DX7_doStep_c5 : decode cX7_doStep 152 = .ok (.iconst 0, 1) ∧ decode cX7_doStep 153 = .ok (.iadd, 1) ∧ decode cX7_doStep 154 = .ok (.iastore, 1) ∧ decode cX7_doStep 155 = .ok (.iload 4, 2) ∧ decode cX7_doStep 157 = .ok (.iload_n 2, 1) ∧ decode cX7_doStep 158 = .ok (.if_icmp .gt 7, 3) ∧ decode cX7_doStep 161 = .ok (.iconst 1, 1) ∧ decode cX7_doStep 162 = .ok (.goto 4, 3) ∧ decode cX7_doStep 165 = .ok (.iconst 0, 1) ∧ decode cX7_doStep 166 = .ok (.ireturn, 1) := by decide +kernel
theorem dX7_doStep_152 : Dc cX7_doStep 152 (.iconst 0) 1 153 := ⟨DX7_doStep_c5.1, rfl⟩
theorem dX7_doStep_153 : Dc cX7_doStep 153 (.iadd) 1 154 := ⟨DX7_doStep_c5.2.1, rfl⟩
theorem dX7_doStep_154 : Dc cX7_doStep 154 (.iastore) 1 155 := ⟨DX7_doStep_c5.2.2.1, rfl⟩
theorem dX7_doStep_155 : Dc cX7_doStep 155 (.iload 4) 2 157 := ⟨DX7_doStep_c5.2.2.2.1, rfl⟩
theorem dX7_doStep_157 : Dc cX7_doStep 157 (.iload_n 2) 1 158 := ⟨DX7_doStep_c5.2.2.2.2.1, rfl⟩
theorem dX7_doStep_158 : Db cX7_doStep 158 (fun o => .if_icmp .gt o) 161 165 := ⟨7, DX7_doStep_c5.2.2.2.2.2.1, rfl, rfl⟩
theorem dX7_doStep_161 : Dc cX7_doStep 161 (.iconst 1) 1 162 := ⟨DX7_doStep_c5.2.2.2.2.2.2.1, rfl⟩
theorem dX7_doStep_162 : Db cX7_doStep 162 .goto 165 166 := ⟨4, DX7_doStep_c5.2.2.2.2.2.2.2.1, rfl, rfl⟩
theorem dX7_doStep_165 : Dc cX7_doStep 165 (.iconst 0) 1 166 := ⟨DX7_doStep_c5.2.2.2.2.2.2.2.2.1, rfl⟩
theorem dX7_doStep_166 : Dc cX7_doStep 166 (.ireturn) 1 167 := ⟨DX7_doStep_c5.2.2.2.2.2.2.2.2.2, rfl⟩
theorem DX7_step_c0 : decode cX7_step 0 = .ok (.iload_n 1, 1) ∧ decode cX7_step 1 = .ok (.iconst 0, 1) ∧ decode cX7_step 2 = .ok (.iconst 5, 1) ∧ decode cX7_step 3 = .ok (.invokestatic 37, 3) ∧ decode cX7_step 6 = .ok (.ifCond .ne 5, 3) ∧ decode cX7_step 9 = .ok (.iconst (-1), 1) ∧ decode cX7_step 10 = .ok (.ireturn, 1) ∧ decode cX7_step 11 = .ok (.iload_n 2, 1) ∧ decode cX7_step 12 = .ok (.iconst 0, 1) ∧ decode cX7_step 13 = .ok (.iload_n 1, 1) ∧ decode cX7_step 14 = .ok (.invokestatic 56, 3) ∧ decode cX7_step 17 = .ok (.invokestatic 37, 3) ∧ decode cX7_step 20 = .ok (.ifCond .ne 6, 3) ∧ decode cX7_step 23 = .ok (.bipush (-2), 2) ∧ decode cX7_step 25 = .ok (.ireturn, 1) ∧ decode cX7_step 26 = .ok (.aload_n 0, 1) := by decide +kernel
theorem dX7_step_0 : Dc cX7_step 0 (.iload_n 1) 1 1 := ⟨DX7_step_c0.1, rfl⟩
theorem dX7_step_1 : Dc cX7_step 1 (.iconst 0) 1 2 := ⟨DX7_step_c0.2.1, rfl⟩
theorem dX7_step_2 : Dc cX7_step 2 (.iconst 5) 1 3 := ⟨DX7_step_c0.2.2.1, rfl⟩
theorem dX7_step_3 : Dc cX7_step 3 (.invokestatic 37) 3 6 := ⟨DX7_step_c0.2.2.2.1, rfl⟩
theorem dX7_step_6 : Db cX7_step 6 (fun o => .ifCond .ne o) 9 11 := ⟨5, DX7_step_c0.2.2.2.2.1, rfl, rfl⟩
theorem dX7_step_9 : Dc cX7_step 9 (.iconst (-1)) 1 10 := ⟨DX7_step_c0.2.2.2.2.2.1, rfl⟩
theorem dX7_step_10 : Dc cX7_step 10 (.ireturn) 1 11 := ⟨DX7_step_c0.2.2.2.2.2.2.1, rfl⟩
theorem dX7_step_11 : Dc cX7_step 11 (.iload_n 2) 1 12 := ⟨DX7_step_c0.2.2.2.2.2.2.2.1, rfl⟩
theorem dX7_step_12 : Dc cX7_step 12 (.iconst 0) 1 13 := ⟨DX7_step_c0.2.2.2.2.2.2.2.2.1, rfl⟩
theorem dX7_step_13 : Dc cX7_step 13 (.iload_n 1) 1 14 := ⟨DX7_step_c0.2.2.2.2.2.2.2.2.2.1, rfl⟩
theorem dX7_step_14 : Dc cX7_step 14 (.invokestatic 56) 3 17 := ⟨DX7_step_c0.2.2.2.2.2.2.2.2.2.2.1, rfl⟩
theorem dX7_step_17 : Dc cX7_step 17 (.invokestatic 37) 3 20 := ⟨DX7_step_c0.2.2.2.2.2.2.2.2.2.2.2.1, rfl⟩
theorem dX7_step_20 : Db cX7_step 20 (fun o => .ifCond .ne o) 23 26 := ⟨6, DX7_step_c0.2.2.2.2.2.2.2.2.2.2.2.2.1, rfl, rfl⟩
theorem dX7_step_23 : Dc cX7_step 23 (.bipush (-2)) 2 25 := ⟨DX7_step_c0.2.2.2.2.2.2.2.2.2.2.2.2.2.1, rfl⟩
theorem dX7_step_25 : Dc cX7_step 25 (.ireturn) 1 26 := ⟨DX7_step_c0.2.2.2.2.2.2.2.2.2.2.2.2.2.2.1, rfl⟩
theorem dX7_step_26 : Dc cX7_step 26 (.aload_n 0) 1 27 := ⟨DX7_step_c0.2.2.2.2.2.2.2.2.2.2.2.2.2.2.2, rfl⟩
theorem DX7_step_c1 : decode cX7_step 27 = .ok (.getfield 7, 3) ∧ decode cX7_step 30 = .ok (.bipush 32, 2) ∧ decode cX7_step 32 = .ok (.iaload, 1) ∧ decode cX7_step 33 = .ok (.iconst 1, 1) ∧ decode cX7_step 34 = .ok (.if_icmp .ne 22, 3) ∧ decode cX7_step 37 = .ok (.aload_n 0, 1) ∧ decode cX7_step 38 = .ok (.aload_n 0, 1) ∧ decode cX7_step 39 = .ok (.getfield 7, 3) ∧ decode cX7_step 42 = .ok (.bipush 31, 2) ∧ decode cX7_step 44 = .ok (.iaload, 1) ∧ decode cX7_step 45 = .ok (.invokevirtual 60, 3) ∧ decode cX7_step 48 = .ok (.bipush 12, 2) ∧ decode cX7_step 50 = .ok (.if_icmp .ne 6, 3) ∧ decode cX7_step 53 = .ok (.bipush (-3), 2) ∧ decode cX7_step 55 = .ok (.ireturn, 1) ∧ decode cX7_step 56 = .ok (.aload_n 0, 1) := by decide +kernel
theorem dX7_step_27 : Dc cX7_step 27 (.getfield 7) 3 30 := ⟨DX7_step_c1.1, rfl⟩
theorem dX7_step_30 : Dc cX7_step 30 (.bipush 32) 2 32 := ⟨DX7_step_c1.2.1, rfl⟩
theorem dX7_step_32 : Dc cX7_step 32 (.iaload) 1 33 := ⟨DX7_step_c1.2.2.1, rfl⟩
theorem dX7_step_33 : Dc cX7_step 33 (.iconst 1) 1 34 := ⟨DX7_step_c1.2.2.2.1, rfl⟩
theorem dX7_step_34 : Db cX7_step 34 (fun o => .if_icmp .ne o) 37 56 := ⟨22, DX7_step_c1.2.2.2.2.1, rfl, rfl⟩
theorem dX7_step_37 : Dc cX7_step 37 (.aload_n 0) 1 38 := ⟨DX7_step_c1.2.2.2.2.2.1, rfl⟩
theorem dX7_step_38 : Dc cX7_step 38 (.aload_n 0) 1 39 := ⟨DX7_step_c1.2.2.2.2.2.2.1, rfl⟩
theorem dX7_step_39 : Dc cX7_step 39 (.getfield 7) 3 42 := ⟨DX7_step_c1.2.2.2.2.2.2.2.1, rfl⟩
theorem dX7_step_42 : Dc cX7_step 42 (.bipush 31) 2 44 := ⟨DX7_step_c1.2.2.2.2.2.2.2.2.1, rfl⟩
theorem dX7_step_44 : Dc cX7_step 44 (.iaload) 1 45 := ⟨DX7_step_c1.2.2.2.2.2.2.2.2.2.1, rfl⟩
theorem dX7_step_45 : Dc cX7_step 45 (.invokevirtual 60) 3 48 := ⟨DX7_step_c1.2.2.2.2.2.2.2.2.2.2.1, rfl⟩
theorem dX7_step_48 : Dc cX7_step 48 (.bipush 12) 2 50 := ⟨DX7_step_c1.2.2.2.2.2.2.2.2.2.2.2.1, rfl⟩
theorem dX7_step_50 : Db cX7_step 50 (fun o => .if_icmp .ne o) 53 56 := ⟨6, DX7_step_c1.2.2.2.2.2.2.2.2.2.2.2.2.1, rfl, rfl⟩
theorem dX7_step_53 : Dc cX7_step 53 (.bipush (-3)) 2 55 := ⟨DX7_step_c1.2.2.2.2.2.2.2.2.2.2.2.2.2.1, rfl⟩
theorem dX7_step_55 : Dc cX7_step 55 (.ireturn) 1 56 := ⟨DX7_step_c1.2.2.2.2.2.2.2.2.2.2.2.2.2.2.1, rfl⟩
theorem dX7_step_56 : Dc cX7_step 56 (.aload_n 0) 1 57 := ⟨DX7_step_c1.2.2.2.2.2.2.2.2.2.2.2.2.2.2.2, rfl⟩
theorem DX7_step_c2 : decode cX7_step 57 = .ok (.invokevirtual 53, 3) ∧ decode cX7_step 60 = .ok (.aload_n 0, 1) ∧ decode cX7_step 61 = .ok (.getfield 7, 3) ∧ decode cX7_step 64 = .ok (.bipush 32, 2) ∧ decode cX7_step 66 = .ok (.iaload, 1) ∧ decode cX7_step 67 = .ok (.iconst 1, 1) ∧ decode cX7_step 68 = .ok (.if_icmp .ne 63, 3) ∧ decode cX7_step 71 = .ok (.bipush 38, 2) ∧ decode cX7_step 73 = .ok (.bipush 25, 2) ∧ decode cX7_step 75 = .ok (.aload_n 0, 1) ∧ decode cX7_step 76 = .ok (.getfield 7, 3) ∧ decode cX7_step 79 = .ok (.bipush 31, 2) ∧ decode cX7_step 81 = .ok (.iaload, 1) ∧ decode cX7_step 82 = .ok (.imul, 1) ∧ decode cX7_step 83 = .ok (.iadd, 1) ∧ decode cX7_step 84 = .ok (.istore_n 3, 1) := by decide +kernel
theorem dX7_step_57 : Dc cX7_step 57 (.invokevirtual 53) 3 60 := ⟨DX7_step_c2.1, rfl⟩
theorem dX7_step_60 : Dc cX7_step 60 (.aload_n 0) 1 61 := ⟨DX7_step_c2.2.1, rfl⟩
theorem dX7_step_61 : Dc cX7_step 61 (.getfield 7) 3 64 := ⟨DX7_step_c2.2.2.1, rfl⟩
theorem dX7_step_64 : Dc cX7_step 64 (.bipush 32) 2 66 := ⟨DX7_step_c2.2.2.2.1, rfl⟩
theorem dX7_step_66 : Dc cX7_step 66 (.iaload) 1 67 := ⟨DX7_step_c2.2.2.2.2.1, rfl⟩
theorem dX7_step_67 : Dc cX7_step 67 (.iconst 1) 1 68 := ⟨DX7_step_c2.2.2.2.2.2.1, rfl⟩
theorem dX7_step_68 : Db cX7_step 68 (fun o => .if_icmp .ne o) 71 131 := ⟨63, DX7_step_c2.2.2.2.2.2.2.1, rfl, rfl⟩
theorem dX7_step_71 : Dc cX7_step 71 (.bipush 38) 2 73 := ⟨DX7_step_c2.2.2.2.2.2.2.2.1, rfl⟩
theorem dX7_step_73 : Dc cX7_step 73 (.bipush 25) 2 75 := ⟨DX7_step_c2.2.2.2.2.2.2.2.2.1, rfl⟩
theorem dX7_step_75 : Dc cX7_step 75 (.aload_n 0) 1 76 := ⟨DX7_step_c2.2.2.2.2.2.2.2.2.2.1, rfl⟩
theorem dX7_step_76 : Dc cX7_step 76 (.getfield 7) 3 79 := ⟨DX7_step_c2.2.2.2.2.2.2.2.2.2.2.1, rfl⟩
theorem dX7_step_79 : Dc cX7_step 79 (.bipush 31) 2 81 := ⟨DX7_step_c2.2.2.2.2.2.2.2.2.2.2.2.1, rfl⟩
theorem dX7_step_81 : Dc cX7_step 81 (.iaload) 1 82 := ⟨DX7_step_c2.2.2.2.2.2.2.2.2.2.2.2.2.1, rfl⟩
theorem dX7_step_82 : Dc cX7_step 82 (.imul) 1 83 := ⟨DX7_step_c2.2.2.2.2.2.2.2.2.2.2.2.2.2.1, rfl⟩
theorem dX7_step_83 : Dc cX7_step 83 (.iadd) 1 84 := ⟨DX7_step_c2.2.2.2.2.2.2.2.2.2.2.2.2.2.2.1, rfl⟩
theorem dX7_step_84 : Dc cX7_step 84 (.istore_n 3) 1 85 := ⟨DX7_step_c2.2.2.2.2.2.2.2.2.2.2.2.2.2.2.2, rfl⟩
theorem DX7_step_c3 : decode cX7_step 85 = .ok (.aload_n 0, 1) ∧ decode cX7_step 86 = .ok (.getfield 7, 3) ∧ decode cX7_step 89 = .ok (.iload_n 3, 1) ∧ decode cX7_step 90 = .ok (.iconst 1, 1) ∧ decode cX7_step 91 = .ok (.iadd, 1) ∧ decode cX7_step 92 = .ok (.iconst 2, 1) ∧ decode cX7_step 93 = .ok (.aload_n 0, 1) ∧ decode cX7_step 94 = .ok (.getfield 7, 3) ∧ decode cX7_step 97 = .ok (.iload_n 3, 1) ∧ decode cX7_step 98 = .ok (.iaload, 1) ∧ decode cX7_step 99 = .ok (.imul, 1) ∧ decode cX7_step 100 = .ok (.iadd, 1) ∧ decode cX7_step 101 = .ok (.iload_n 1, 1) ∧ decode cX7_step 102 = .ok (.iastore, 1) ∧ decode cX7_step 103 = .ok (.aload_n 0, 1) ∧ decode cX7_step 104 = .ok (.getfield 7, 3) := by decide +kernel
theorem dX7_step_85 : Dc cX7_step 85 (.aload_n 0) 1 86 := ⟨DX7_step_c3.1, rfl⟩
theorem dX7_step_86 : Dc cX7_step 86 (.getfield 7) 3 89 := ⟨DX7_step_c3.2.1, rfl⟩
theorem dX7_step_89 : Dc cX7_step 89 (.iload_n 3) 1 90 := ⟨DX7_step_c3.2.2.1, rfl⟩
theorem dX7_step_90 : Dc cX7_step 90 (.iconst 1) 1 91 := ⟨DX7_step_c3.2.2.2.1, rfl⟩
theorem dX7_step_91 : Dc cX7_step 91 (.iadd) 1 92 := ⟨DX7_step_c3.2.2.2.2.1, rfl⟩
theorem dX7_step_92 : Dc cX7_step 92 (.iconst 2) 1 93 := ⟨DX7_step_c3.2.2.2.2.2.1, rfl⟩
theorem dX7_step_93 : Dc cX7_step 93 (.aload_n 0) 1 94 := ⟨DX7_step_c3.2.2.2.2.2.2.1, rfl⟩
theorem dX7_step_94 : Dc cX7_step 94 (.getfield 7) 3 97 := ⟨DX7_step_c3.2.2.2.2.2.2.2.1, rfl⟩
theorem dX7_step_97 : Dc cX7_step 97 (.iload_n 3) 1 98 := ⟨DX7_step_c3.2.2.2.2.2.2.2.2.1, rfl⟩
theorem dX7_step_98 : Dc cX7_step 98 (.iaload) 1 99 := ⟨DX7_step_c3.2.2.2.2.2.2.2.2.2.1, rfl⟩
theorem dX7_step_99 : Dc cX7_step 99 (.imul) 1 100 := ⟨DX7_step_c3.2.2.2.2.2.2.2.2.2.2.1, rfl⟩
theorem dX7_step_100 : Dc cX7_step 100 (.iadd) 1 101 := ⟨DX7_step_c3.2.2.2.2.2.2.2.2.2.2.2.1, rfl⟩
theorem dX7_step_101 : Dc cX7_step 101 (.iload_n 1) 1 102 := ⟨DX7_step_c3.2.2.2.2.2.2.2.2.2.2.2.2.1, rfl⟩
theorem dX7_step_102 : Dc cX7_step 102 (.iastore) 1 103 := ⟨DX7_step_c3.2.2.2.2.2.2.2.2.2.2.2.2.2.1, rfl⟩
theorem dX7_step_103 : Dc cX7_step 103 (.aload_n 0) 1 104 := ⟨DX7_step_c3.2.2.2.2.2.2.2.2.2.2.2.2.2.2.1, rfl⟩
theorem dX7_step_104 : Dc cX7_step 104 (.getfield 7) 3 107 := ⟨DX7_step_c3.2.2.2.2.2.2.2.2.2.2.2.2.2.2.2, rfl⟩
theorem DX7_step_c4 : decode cX7_step 107 = .ok (.iload_n 3, 1) ∧ decode cX7_step 108 = .ok (.iconst 2, 1) ∧ decode cX7_step 109 = .ok (.iadd, 1) ∧ decode cX7_step 110 = .ok (.iconst 2, 1) ∧ decode cX7_step 111 = .ok (.aload_n 0, 1) ∧ decode cX7_step 112 = .ok (.getfield 7, 3) ∧ decode cX7_step 115 = .ok (.iload_n 3, 1) ∧ decode cX7_step 116 = .ok (.iaload, 1) ∧ decode cX7_step 117 = .ok (.imul, 1) ∧ decode cX7_step 118 = .ok (.iadd, 1) ∧ decode cX7_step 119 = .ok (.iload_n 2, 1) ∧ decode cX7_step 120 = .ok (.iastore, 1) ∧ decode cX7_step 121 = .ok (.aload_n 0, 1) ∧ decode cX7_step 122 = .ok (.getfield 7, 3) ∧ decode cX7_step 125 = .ok (.iload_n 3, 1) ∧ decode cX7_step 126 = .ok (.dup2, 1) := by decide +kernel
theorem dX7_step_107 : Dc cX7_step 107 (.iload_n 3) 1 108 := ⟨DX7_step_c4.1, rfl⟩
theorem dX7_step_108 : Dc cX7_step 108 (.iconst 2) 1 109 := ⟨DX7_step_c4.2.1, rfl⟩
theorem dX7_step_109 : Dc cX7_step 109 (.iadd) 1 110 := ⟨DX7_step_c4.2.2.1, rfl⟩
theorem dX7_step_110 : Dc cX7_step 110 (.iconst 2) 1 111 := ⟨DX7_step_c4.2.2.2.1, rfl⟩
theorem dX7_step_111 : Dc cX7_step 111 (.aload_n 0) 1 112 := ⟨DX7_step_c4.2.2.2.2.1, rfl⟩
theorem dX7_step_112 : Dc cX7_step 112 (.getfield 7) 3 115 := ⟨DX7_step_c4.2.2.2.2.2.1, rfl⟩
theorem dX7_step_115 : Dc cX7_step 115 (.iload_n 3) 1 116 := ⟨DX7_step_c4.2.2.2.2.2.2.1, rfl⟩
theorem dX7_step_116 : Dc cX7_step 116 (.iaload) 1 117 := ⟨DX7_step_c4.2.2.2.2.2.2.2.1, rfl⟩
theorem dX7_step_117 : Dc cX7_step 117 (.imul) 1 118 := ⟨DX7_step_c4.2.2.2.2.2.2.2.2.1, rfl⟩
theorem dX7_step_118 : Dc cX7_step 118 (.iadd) 1 119 := ⟨DX7_step_c4.2.2.2.2.2.2.2.2.2.1, rfl⟩
theorem dX7_step_119 : Dc cX7_step 119 (.iload_n 2) 1 120 := ⟨DX7_step_c4.2.2.2.2.2.2.2.2.2.2.1, rfl⟩
theorem dX7_step_120 : Dc cX7_step 120 (.iastore) 1 121 := ⟨DX7_step_c4.2.2.2.2.2.2.2.2.2.2.2.1, rfl⟩
theorem dX7_step_121 : Dc cX7_step 121 (.aload_n 0) 1 122 := ⟨DX7_step_c4.2.2.2.2.2.2.2.2.2.2.2.2.1, rfl⟩
theorem dX7_step_122 : Dc cX7_step 122 (.getfield 7) 3 125 := ⟨DX7_step_c4.2.2.2.2.2.2.2.2.2.2.2.2.2.1, rfl⟩
theorem dX7_step_125 : Dc cX7_step 125 (.iload_n 3) 1 126 := ⟨DX7_step_c4.2.2.2.2.2.2.2.2.2.2.2.2.2.2.1, rfl⟩
theorem dX7_step_126 : Dc cX7_step 126 (.dup2) 1 127 := ⟨DX7_step_c4.2.2.2.2.2.2.2.2.2.2.2.2.2.2.2, rfl⟩
theorem DX7_step_c5 : decode cX7_step 127 = .ok (.iaload, 1) ∧ decode cX7_step 128 = .ok (.iconst 1, 1) ∧ decode cX7_step 129 = .ok (.iadd, 1) ∧ decode cX7_step 130 = .ok (.iastore, 1) ∧ decode cX7_step 131 = .ok (.aload_n 0, 1) ∧ decode cX7_step 132 = .ok (.iload_n 1, 1) ∧ decode cX7_step 133 = .ok (.iload_n 2, 1) ∧ decode cX7_step 134 = .ok (.invokevirtual 63, 3) ∧ decode cX7_step 137 = .ok (.ifCond .eq 18, 3) ∧ decode cX7_step 140 = .ok (.aload_n 0, 1) ∧ decode cX7_step 141 = .ok (.getfield 7, 3) ∧ decode cX7_step 144 = .ok (.aload_n 0, 1) ∧ decode cX7_step 145 = .ok (.getfield 7, 3) ∧ decode cX7_step 148 = .ok (.bipush 30, 2) ∧ decode cX7_step 150 = .ok (.iaload, 1) ∧ decode cX7_step 151 = .ok (.iaload, 1) := by decide +kernel
theorem dX7_step_127 : Dc cX7_step 127 (.iaload) 1 128 := ⟨DX7_step_c5.1, rfl⟩
theorem dX7_step_128 : Dc cX7_step 128 (.iconst 1) 1 129 := ⟨DX7_step_c5.2.1, rfl⟩
theorem dX7_step_129 : Dc cX7_step 129 (.iadd) 1 130 := ⟨DX7_step_c5.2.2.1, rfl⟩
theorem dX7_step_130 : Dc cX7_step 130 (.iastore) 1 131 := ⟨DX7_step_c5.2.2.2.1, rfl⟩
theorem dX7_step_131 : Dc cX7_step 131 (.aload_n 0) 1 132 := ⟨DX7_step_c5.2.2.2.2.1, rfl⟩
theorem dX7_step_132 : Dc cX7_step 132 (.iload_n 1) 1 133 := ⟨DX7_step_c5.2.2.2.2.2.1, rfl⟩
theorem dX7_step_133 : Dc cX7_step 133 (.iload_n 2) 1 134 := ⟨DX7_step_c5.2.2.2.2.2.2.1, rfl⟩
theorem dX7_step_134 : Dc cX7_step 134 (.invokevirtual 63) 3 137 := ⟨DX7_step_c5.2.2.2.2.2.2.2.1, rfl⟩
theorem dX7_step_137 : Db cX7_step 137 (fun o => .ifCond .eq o) 140 155 := ⟨18, DX7_step_c5.2.2.2.2.2.2.2.2.1, rfl, rfl⟩
theorem dX7_step_140 : Dc cX7_step 140 (.aload_n 0) 1 141 := ⟨DX7_step_c5.2.2.2.2.2.2.2.2.2.1, rfl⟩
theorem dX7_step_141 : Dc cX7_step 141 (.getfield 7) 3 144 := ⟨DX7_step_c5.2.2.2.2.2.2.2.2.2.2.1, rfl⟩
theorem dX7_step_144 : Dc cX7_step 144 (.aload_n 0) 1 145 := ⟨DX7_step_c5.2.2.2.2.2.2.2.2.2.2.2.1, rfl⟩
theorem dX7_step_145 : Dc cX7_step 145 (.getfield 7) 3 148 := ⟨DX7_step_c5.2.2.2.2.2.2.2.2.2.2.2.2.1, rfl⟩
theorem dX7_step_148 : Dc cX7_step 148 (.bipush 30) 2 150 := ⟨DX7_step_c5.2.2.2.2.2.2.2.2.2.2.2.2.2.1, rfl⟩
theorem dX7_step_150 : Dc cX7_step 150 (.iaload) 1 151 := ⟨DX7_step_c5.2.2.2.2.2.2.2.2.2.2.2.2.2.2.1, rfl⟩
theorem dX7_step_151 : Dc cX7_step 151 (.iaload) 1 152 := ⟨DX7_step_c5.2.2.2.2.2.2.2.2.2.2.2.2.2.2.2, rfl⟩
theorem DX7_step_c6 : decode cX7_step 152 = .ok (.goto 5, 3) ∧ decode cX7_step 155 = .ok (.bipush 100, 2) ∧ decode cX7_step 157 = .ok (.ireturn, 1) := by decide +kernel
theorem dX7_step_152 : Db cX7_step 152 .goto 155 157 := ⟨5, DX7_step_c6.1, rfl, rfl⟩
theorem dX7_step_155 : Dc cX7_step 155 (.bipush 100) 2 157 := ⟨DX7_step_c6.2.1, rfl⟩
theorem dX7_step_157 : Dc cX7_step 157 (.ireturn) 1 158 := ⟨DX7_step_c6.2.2, rfl⟩
theorem DX7_record_c0 : decode cX7_record 0 = .ok (.aload_n 0, 1) ∧ decode cX7_record 1 = .ok (.getfield 7, 3) ∧ decode cX7_record 4 = .ok (.bipush 32, 2) ∧ decode cX7_record 6 = .ok (.iaload, 1) ∧ decode cX7_record 7 = .ok (.iconst 1, 1) ∧ decode cX7_record 8 = .ok (.if_icmp .eq 15, 3) ∧ decode cX7_record 11 = .ok (.aload_n 0, 1) ∧ decode cX7_record 12 = .ok (.getfield 7, 3) ∧ decode cX7_record 15 = .ok (.bipush 31, 2) ∧ decode cX7_record 17 = .ok (.iaload, 1) ∧ decode cX7_record 18 = .ok (.bipush 6, 2) ∧ decode cX7_record 20 = .ok (.if_icmp .ne 22, 3) ∧ decode cX7_record 23 = .ok (.aload_n 0, 1) ∧ decode cX7_record 24 = .ok (.getfield 7, 3) ∧ decode cX7_record 27 = .ok (.bipush 32, 2) ∧ decode cX7_record 29 = .ok (.iaload, 1) := by decide +kernel
theorem dX7_record_0 : Dc cX7_record 0 (.aload_n 0) 1 1 := ⟨DX7_record_c0.1, rfl⟩
theorem dX7_record_1 : Dc cX7_record 1 (.getfield 7) 3 4 := ⟨DX7_record_c0.2.1, rfl⟩
theorem dX7_record_4 : Dc cX7_record 4 (.bipush 32) 2 6 := ⟨DX7_record_c0.2.2.1, rfl⟩
theorem dX7_record_6 : Dc cX7_record 6 (.iaload) 1 7 := ⟨DX7_record_c0.2.2.2.1, rfl⟩
theorem dX7_record_7 : Dc cX7_record 7 (.iconst 1) 1 8 := ⟨DX7_record_c0.2.2.2.2.1, rfl⟩
theorem dX7_record_8 : Db cX7_record 8 (fun o => .if_icmp .eq o) 11 23 := ⟨15, DX7_record_c0.2.2.2.2.2.1, rfl, rfl⟩
theorem dX7_record_11 : Dc cX7_record 11 (.aload_n 0) 1 12 := ⟨DX7_record_c0.2.2.2.2.2.2.1, rfl⟩
theorem dX7_record_12 : Dc cX7_record 12 (.getfield 7) 3 15 := ⟨DX7_record_c0.2.2.2.2.2.2.2.1, rfl⟩
theorem dX7_record_15 : Dc cX7_record 15 (.bipush 31) 2 17 := ⟨DX7_record_c0.2.2.2.2.2.2.2.2.1, rfl⟩
theorem dX7_record_17 : Dc cX7_record 17 (.iaload) 1 18 := ⟨DX7_record_c0.2.2.2.2.2.2.2.2.2.1, rfl⟩
theorem dX7_record_18 : Dc cX7_record 18 (.bipush 6) 2 20 := ⟨DX7_record_c0.2.2.2.2.2.2.2.2.2.2.1, rfl⟩
theorem dX7_record_20 : Db cX7_record 20 (fun o => .if_icmp .ne o) 23 42 := ⟨22, DX7_record_c0.2.2.2.2.2.2.2.2.2.2.2.1, rfl, rfl⟩
theorem dX7_record_23 : Dc cX7_record 23 (.aload_n 0) 1 24 := ⟨DX7_record_c0.2.2.2.2.2.2.2.2.2.2.2.2.1, rfl⟩
theorem dX7_record_24 : Dc cX7_record 24 (.getfield 7) 3 27 := ⟨DX7_record_c0.2.2.2.2.2.2.2.2.2.2.2.2.2.1, rfl⟩
theorem dX7_record_27 : Dc cX7_record 27 (.bipush 32) 2 29 := ⟨DX7_record_c0.2.2.2.2.2.2.2.2.2.2.2.2.2.2.1, rfl⟩
theorem dX7_record_29 : Dc cX7_record 29 (.iaload) 1 30 := ⟨DX7_record_c0.2.2.2.2.2.2.2.2.2.2.2.2.2.2.2, rfl⟩
theorem DX7_record_c1 : decode cX7_record 30 = .ok (.iconst 1, 1) ∧ decode cX7_record 31 = .ok (.if_icmp .ne 8, 3) ∧ decode cX7_record 34 = .ok (.bipush (-4), 2) ∧ decode cX7_record 36 = .ok (.goto 5, 3) ∧ decode cX7_record 39 = .ok (.bipush (-3), 2) ∧ decode cX7_record 41 = .ok (.ireturn, 1) ∧ decode cX7_record 42 = .ok (.aload_n 0, 1) ∧ decode cX7_record 43 = .ok (.invokevirtual 53, 3) ∧ decode cX7_record 46 = .ok (.aload_n 0, 1) ∧ decode cX7_record 47 = .ok (.getfield 7, 3) ∧ decode cX7_record 50 = .ok (.bipush 32, 2) ∧ decode cX7_record 52 = .ok (.iconst 1, 1) ∧ decode cX7_record 53 = .ok (.iastore, 1) ∧ decode cX7_record 54 = .ok (.iconst 0, 1) ∧ decode cX7_record 55 = .ok (.istore_n 1, 1) ∧ decode cX7_record 56 = .ok (.iload_n 1, 1) := by decide +kernel
theorem dX7_record_30 : Dc cX7_record 30 (.iconst 1) 1 31 := ⟨DX7_record_c1.1, rfl⟩
theorem dX7_record_31 : Db cX7_record 31 (fun o => .if_icmp .ne o) 34 39 := ⟨8, DX7_record_c1.2.1, rfl, rfl⟩
theorem dX7_record_34 : Dc cX7_record 34 (.bipush (-4)) 2 36 := ⟨DX7_record_c1.2.2.1, rfl⟩
theorem dX7_record_36 : Db cX7_record 36 .goto 39 41 := ⟨5, DX7_record_c1.2.2.2.1, rfl, rfl⟩
theorem dX7_record_39 : Dc cX7_record 39 (.bipush (-3)) 2 41 := ⟨DX7_record_c1.2.2.2.2.1, rfl⟩
theorem dX7_record_41 : Dc cX7_record 41 (.ireturn) 1 42 := ⟨DX7_record_c1.2.2.2.2.2.1, rfl⟩
theorem dX7_record_42 : Dc cX7_record 42 (.aload_n 0) 1 43 := ⟨DX7_record_c1.2.2.2.2.2.2.1, rfl⟩
theorem dX7_record_43 : Dc cX7_record 43 (.invokevirtual 53) 3 46 := ⟨DX7_record_c1.2.2.2.2.2.2.2.1, rfl⟩
theorem dX7_record_46 : Dc cX7_record 46 (.aload_n 0) 1 47 := ⟨DX7_record_c1.2.2.2.2.2.2.2.2.1, rfl⟩
theorem dX7_record_47 : Dc cX7_record 47 (.getfield 7) 3 50 := ⟨DX7_record_c1.2.2.2.2.2.2.2.2.2.1, rfl⟩
theorem dX7_record_50 : Dc cX7_record 50 (.bipush 32) 2 52 := ⟨DX7_record_c1.2.2.2.2.2.2.2.2.2.2.1, rfl⟩
theorem dX7_record_52 : Dc cX7_record 52 (.iconst 1) 1 53 := ⟨DX7_record_c1.2.2.2.2.2.2.2.2.2.2.2.1, rfl⟩
theorem dX7_record_53 : Dc cX7_record 53 (.iastore) 1 54 := ⟨DX7_record_c1.2.2.2.2.2.2.2.2.2.2.2.2.1, rfl⟩
theorem dX7_record_54 : Dc cX7_record 54 (.iconst 0) 1 55 := ⟨DX7_record_c1.2.2.2.2.2.2.2.2.2.2.2.2.2.1, rfl⟩
theorem dX7_record_55 : Dc cX7_record 55 (.istore_n 1) 1 56 := ⟨DX7_record_c1.2.2.2.2.2.2.2.2.2.2.2.2.2.2.1, rfl⟩
theorem dX7_record_56 : Dc cX7_record 56 (.iload_n 1) 1 57 := ⟨DX7_record_c1.2.2.2.2.2.2.2.2.2.2.2.2.2.2.2, rfl⟩
theorem DX7_record_c2 : decode cX7_record 57 = .ok (.bipush 25, 2) ∧ decode cX7_record 59 = .ok (.if_icmp .ge 30, 3) ∧ decode cX7_record 62 = .ok (.aload_n 0, 1) ∧ decode cX7_record 63 = .ok (.getfield 7, 3) ∧ decode cX7_record 66 = .ok (.bipush 38, 2) ∧ decode cX7_record 68 = .ok (.bipush 25, 2) ∧ decode cX7_record 70 = .ok (.aload_n 0, 1) ∧ decode cX7_record 71 = .ok (.getfield 7, 3) ∧ decode cX7_record 74 = .ok (.bipush 31, 2) ∧ decode cX7_record 76 = .ok (.iaload, 1) ∧ decode cX7_record 77 = .ok (.imul, 1) ∧ decode cX7_record 78 = .ok (.iadd, 1) ∧ decode cX7_record 79 = .ok (.iload_n 1, 1) ∧ decode cX7_record 80 = .ok (.iadd, 1) ∧ decode cX7_record 81 = .ok (.iconst 0, 1) ∧ decode cX7_record 82 = .ok (.iastore, 1) := by decide +kernel
theorem dX7_record_57 : Dc cX7_record 57 (.bipush 25) 2 59 := ⟨DX7_record_c2.1, rfl⟩
theorem dX7_record_59 : Db cX7_record 59 (fun o => .if_icmp .ge o) 62 89 := ⟨30, DX7_record_c2.2.1, rfl, rfl⟩
theorem dX7_record_62 : Dc cX7_record 62 (.aload_n 0) 1 63 := ⟨DX7_record_c2.2.2.1, rfl⟩
theorem dX7_record_63 : Dc cX7_record 63 (.getfield 7) 3 66 := ⟨DX7_record_c2.2.2.2.1, rfl⟩
theorem dX7_record_66 : Dc cX7_record 66 (.bipush 38) 2 68 := ⟨DX7_record_c2.2.2.2.2.1, rfl⟩
theorem dX7_record_68 : Dc cX7_record 68 (.bipush 25) 2 70 := ⟨DX7_record_c2.2.2.2.2.2.1, rfl⟩
theorem dX7_record_70 : Dc cX7_record 70 (.aload_n 0) 1 71 := ⟨DX7_record_c2.2.2.2.2.2.2.1, rfl⟩
theorem dX7_record_71 : Dc cX7_record 71 (.getfield 7) 3 74 := ⟨DX7_record_c2.2.2.2.2.2.2.2.1, rfl⟩
theorem dX7_record_74 : Dc cX7_record 74 (.bipush 31) 2 76 := ⟨DX7_record_c2.2.2.2.2.2.2.2.2.1, rfl⟩
theorem dX7_record_76 : Dc cX7_record 76 (.iaload) 1 77 := ⟨DX7_record_c2.2.2.2.2.2.2.2.2.2.1, rfl⟩
theorem dX7_record_77 : Dc cX7_record 77 (.imul) 1 78 := ⟨DX7_record_c2.2.2.2.2.2.2.2.2.2.2.1, rfl⟩
theorem dX7_record_78 : Dc cX7_record 78 (.iadd) 1 79 := ⟨DX7_record_c2.2.2.2.2.2.2.2.2.2.2.2.1, rfl⟩
theorem dX7_record_79 : Dc cX7_record 79 (.iload_n 1) 1 80 := ⟨DX7_record_c2.2.2.2.2.2.2.2.2.2.2.2.2.1, rfl⟩
theorem dX7_record_80 : Dc cX7_record 80 (.iadd) 1 81 := ⟨DX7_record_c2.2.2.2.2.2.2.2.2.2.2.2.2.2.1, rfl⟩
theorem dX7_record_81 : Dc cX7_record 81 (.iconst 0) 1 82 := ⟨DX7_record_c2.2.2.2.2.2.2.2.2.2.2.2.2.2.2.1, rfl⟩
theorem dX7_record_82 : Dc cX7_record 82 (.iastore) 1 83 := ⟨DX7_record_c2.2.2.2.2.2.2.2.2.2.2.2.2.2.2.2, rfl⟩
theorem DX7_record_c3 : decode cX7_record 83 = .ok (.iinc 1 1, 3) ∧ decode cX7_record 86 = .ok (.goto (-30), 3) ∧ decode cX7_record 89 = .ok (.aload_n 0, 1) ∧ decode cX7_record 90 = .ok (.getfield 7, 3) ∧ decode cX7_record 93 = .ok (.bipush 31, 2) ∧ decode cX7_record 95 = .ok (.iaload, 1) ∧ decode cX7_record 96 = .ok (.ireturn, 1) := by decide +kernel
theorem dX7_record_83 : Dc cX7_record 83 (.iinc 1 1) 3 86 := ⟨DX7_record_c3.1, rfl⟩
theorem dX7_record_86 : Db cX7_record 86 .goto 89 56 := ⟨-30, DX7_record_c3.2.1, rfl, rfl⟩
theorem dX7_record_89 : Dc cX7_record 89 (.aload_n 0) 1 90 := ⟨DX7_record_c3.2.2.1, rfl⟩
theorem dX7_record_90 : Dc cX7_record 90 (.getfield 7) 3 93 := ⟨DX7_record_c3.2.2.2.1, rfl⟩
theorem dX7_record_93 : Dc cX7_record 93 (.bipush 31) 2 95 := ⟨DX7_record_c3.2.2.2.2.1, rfl⟩
theorem dX7_record_95 : Dc cX7_record 95 (.iaload) 1 96 := ⟨DX7_record_c3.2.2.2.2.2.1, rfl⟩
theorem dX7_record_96 : Dc cX7_record 96 (.ireturn) 1 97 := ⟨DX7_record_c3.2.2.2.2.2.2, rfl⟩
theorem DX7_end_c0 : decode cX7_end 0 = .ok (.aload_n 0, 1) ∧ decode cX7_end 1 = .ok (.getfield 7, 3) ∧ decode cX7_end 4 = .ok (.bipush 32, 2) ∧ decode cX7_end 6 = .ok (.iaload, 1) ∧ decode cX7_end 7 = .ok (.ifCond .ne 6, 3) ∧ decode cX7_end 10 = .ok (.bipush (-4), 2) ∧ decode cX7_end 12 = .ok (.ireturn, 1) ∧ decode cX7_end 13 = .ok (.aload_n 0, 1) ∧ decode cX7_end 14 = .ok (.invokevirtual 53, 3) ∧ decode cX7_end 17 = .ok (.aload_n 0, 1) ∧ decode cX7_end 18 = .ok (.getfield 7, 3) ∧ decode cX7_end 21 = .ok (.bipush 32, 2) ∧ decode cX7_end 23 = .ok (.iconst 0, 1) ∧ decode cX7_end 24 = .ok (.iastore, 1) ∧ decode cX7_end 25 = .ok (.aload_n 0, 1) ∧ decode cX7_end 26 = .ok (.aload_n 0, 1) := by decide +kernel
theorem dX7_end_0 : Dc cX7_end 0 (.aload_n 0) 1 1 := ⟨DX7_end_c0.1, rfl⟩
theorem dX7_end_1 : Dc cX7_end 1 (.getfield 7) 3 4 := ⟨DX7_end_c0.2.1, rfl⟩
theorem dX7_end_4 : Dc cX7_end 4 (.bipush 32) 2 6 := ⟨DX7_end_c0.2.2.1, rfl⟩
theorem dX7_end_6 : Dc cX7_end 6 (.iaload) 1 7 := ⟨DX7_end_c0.2.2.2.1, rfl⟩
theorem dX7_end_7 : Db cX7_end 7 (fun o => .ifCond .ne o) 10 13 := ⟨6, DX7_end_c0.2.2.2.2.1, rfl, rfl⟩
theorem dX7_end_10 : Dc cX7_end 10 (.bipush (-4)) 2 12 := ⟨DX7_end_c0.2.2.2.2.2.1, rfl⟩
theorem dX7_end_12 : Dc cX7_end 12 (.ireturn) 1 13 := ⟨DX7_end_c0.2.2.2.2.2.2.1, rfl⟩
theorem dX7_end_13 : Dc cX7_end 13 (.aload_n 0) 1 14 := ⟨DX7_end_c0.2.2.2.2.2.2.2.1, rfl⟩
theorem dX7_end_14 : Dc cX7_end 14 (.invokevirtual 53) 3 17 := ⟨DX7_end_c0.2.2.2.2.2.2.2.2.1, rfl⟩
theorem dX7_end_17 : Dc cX7_end 17 (.aload_n 0) 1 18 := ⟨DX7_end_c0.2.2.2.2.2.2.2.2.2.1, rfl⟩
theorem dX7_end_18 : Dc cX7_end 18 (.getfield 7) 3 21 := ⟨DX7_end_c0.2.2.2.2.2.2.2.2.2.2.1, rfl⟩
theorem dX7_end_21 : Dc cX7_end 21 (.bipush 32) 2 23 := ⟨DX7_end_c0.2.2.2.2.2.2.2.2.2.2.2.1, rfl⟩
theorem dX7_end_23 : Dc cX7_end 23 (.iconst 0) 1 24 := ⟨DX7_end_c0.2.2.2.2.2.2.2.2.2.2.2.2.1, rfl⟩
theorem dX7_end_24 : Dc cX7_end 24 (.iastore) 1 25 := ⟨DX7_end_c0.2.2.2.2.2.2.2.2.2.2.2.2.2.1, rfl⟩
theorem dX7_end_25 : Dc cX7_end 25 (.aload_n 0) 1 26 := ⟨DX7_end_c0.2.2.2.2.2.2.2.2.2.2.2.2.2.2.1, rfl⟩
theorem dX7_end_26 : Dc cX7_end 26 (.aload_n 0) 1 27 := ⟨DX7_end_c0.2.2.2.2.2.2.2.2.2.2.2.2.2.2.2, rfl⟩
theorem DX7_end_c1 : decode cX7_end 27 = .ok (.getfield 7, 3) ∧ decode cX7_end 30 = .ok (.bipush 31, 2) ∧ decode cX7_end 32 = .ok (.iaload, 1) ∧ decode cX7_end 33 = .ok (.invokevirtual 60, 3) ∧ decode cX7_end 36 = .ok (.ifCond .ne 6, 3) ∧ decode cX7_end 39 = .ok (.bipush 100, 2) ∧ decode cX7_end 41 = .ok (.ireturn, 1) ∧ decode cX7_end 42 = .ok (.aload_n 0, 1) ∧ decode cX7_end 43 = .ok (.getfield 7, 3) ∧ decode cX7_end 46 = .ok (.bipush 31, 2) ∧ decode cX7_end 48 = .ok (.dup2, 1) ∧ decode cX7_end 49 = .ok (.iaload, 1) ∧ decode cX7_end 50 = .ok (.iconst 1, 1) ∧ decode cX7_end 51 = .ok (.iadd, 1) ∧ decode cX7_end 52 = .ok (.iastore, 1) ∧ decode cX7_end 53 = .ok (.aload_n 0, 1) := by decide +kernel
theorem dX7_end_27 : Dc cX7_end 27 (.getfield 7) 3 30 := ⟨DX7_end_c1.1, rfl⟩
theorem dX7_end_30 : Dc cX7_end 30 (.bipush 31) 2 32 := ⟨DX7_end_c1.2.1, rfl⟩
theorem dX7_end_32 : Dc cX7_end 32 (.iaload) 1 33 := ⟨DX7_end_c1.2.2.1, rfl⟩
theorem dX7_end_33 : Dc cX7_end 33 (.invokevirtual 60) 3 36 := ⟨DX7_end_c1.2.2.2.1, rfl⟩
theorem dX7_end_36 : Db cX7_end 36 (fun o => .ifCond .ne o) 39 42 := ⟨6, DX7_end_c1.2.2.2.2.1, rfl, rfl⟩
theorem dX7_end_39 : Dc cX7_end 39 (.bipush 100) 2 41 := ⟨DX7_end_c1.2.2.2.2.2.1, rfl⟩
theorem dX7_end_41 : Dc cX7_end 41 (.ireturn) 1 42 := ⟨DX7_end_c1.2.2.2.2.2.2.1, rfl⟩
theorem dX7_end_42 : Dc cX7_end 42 (.aload_n 0) 1 43 := ⟨DX7_end_c1.2.2.2.2.2.2.2.1, rfl⟩
theorem dX7_end_43 : Dc cX7_end 43 (.getfield 7) 3 46 := ⟨DX7_end_c1.2.2.2.2.2.2.2.2.1, rfl⟩
theorem dX7_end_46 : Dc cX7_end 46 (.bipush 31) 2 48 := ⟨DX7_end_c1.2.2.2.2.2.2.2.2.2.1, rfl⟩
theorem dX7_end_48 : Dc cX7_end 48 (.dup2) 1 49 := ⟨DX7_end_c1.2.2.2.2.2.2.2.2.2.2.1, rfl⟩
theorem dX7_end_49 : Dc cX7_end 49 (.iaload) 1 50 := ⟨DX7_end_c1.2.2.2.2.2.2.2.2.2.2.2.1, rfl⟩
theorem dX7_end_50 : Dc cX7_end 50 (.iconst 1) 1 51 := ⟨DX7_end_c1.2.2.2.2.2.2.2.2.2.2.2.2.1, rfl⟩
theorem dX7_end_51 : Dc cX7_end 51 (.iadd) 1 52 := ⟨DX7_end_c1.2.2.2.2.2.2.2.2.2.2.2.2.2.1, rfl⟩
theorem dX7_end_52 : Dc cX7_end 52 (.iastore) 1 53 := ⟨DX7_end_c1.2.2.2.2.2.2.2.2.2.2.2.2.2.2.1, rfl⟩
theorem dX7_end_53 : Dc cX7_end 53 (.aload_n 0) 1 54 := ⟨DX7_end_c1.2.2.2.2.2.2.2.2.2.2.2.2.2.2.2, rfl⟩
theorem DX7_end_c2 : decode cX7_end 54 = .ok (.getfield 7, 3) ∧ decode cX7_end 57 = .ok (.bipush 31, 2) ∧ decode cX7_end 59 = .ok (.iaload, 1) ∧ decode cX7_end 60 = .ok (.iconst 1, 1) ∧ decode cX7_end 61 = .ok (.isub, 1) ∧ decode cX7_end 62 = .ok (.ireturn, 1) := by decide +kernel
theorem dX7_end_54 : Dc cX7_end 54 (.getfield 7) 3 57 := ⟨DX7_end_c2.1, rfl⟩
theorem dX7_end_57 : Dc cX7_end 57 (.bipush 31) 2 59 := ⟨DX7_end_c2.2.1, rfl⟩
theorem dX7_end_59 : Dc cX7_end 59 (.iaload) 1 60 := ⟨DX7_end_c2.2.2.1, rfl⟩
theorem dX7_end_60 : Dc cX7_end 60 (.iconst 1) 1 61 := ⟨DX7_end_c2.2.2.2.1, rfl⟩
theorem dX7_end_61 : Dc cX7_end 61 (.isub) 1 62 := ⟨DX7_end_c2.2.2.2.2.1, rfl⟩
theorem dX7_end_62 : Dc cX7_end 62 (.ireturn) 1 63 := ⟨DX7_end_c2.2.2.2.2.2, rfl⟩
theorem DX7_dropTry_c0 : decode cX7_dropTry 0 = .ok (.aload_n 0, 1) ∧ decode cX7_dropTry 1 = .ok (.iload_n 1, 1) ∧ decode cX7_dropTry 2 = .ok (.invokevirtual 67, 3) ∧ decode cX7_dropTry 5 = .ok (.ifCond .ne 5, 3) ∧ decode cX7_dropTry 8 = .ok (.iconst (-1), 1) ∧ decode cX7_dropTry 9 = .ok (.ireturn, 1) ∧ decode cX7_dropTry 10 = .ok (.aload_n 0, 1) ∧ decode cX7_dropTry 11 = .ok (.invokevirtual 53, 3) ∧ decode cX7_dropTry 14 = .ok (.aload_n 0, 1) ∧ decode cX7_dropTry 15 = .ok (.getfield 7, 3) ∧ decode cX7_dropTry 18 = .ok (.bipush 31, 2) ∧ decode cX7_dropTry 20 = .ok (.dup2, 1) ∧ decode cX7_dropTry 21 = .ok (.iaload, 1) ∧ decode cX7_dropTry 22 = .ok (.iconst 1, 1) ∧ decode cX7_dropTry 23 = .ok (.isub, 1) ∧ decode cX7_dropTry 24 = .ok (.iastore, 1) := by decide +kernel
theorem dX7_dropTry_0 : Dc cX7_dropTry 0 (.aload_n 0) 1 1 := ⟨DX7_dropTry_c0.1, rfl⟩
theorem dX7_dropTry_1 : Dc cX7_dropTry 1 (.iload_n 1) 1 2 := ⟨DX7_dropTry_c0.2.1, rfl⟩
theorem dX7_dropTry_2 : Dc cX7_dropTry 2 (.invokevirtual 67) 3 5 := ⟨DX7_dropTry_c0.2.2.1, rfl⟩
theorem dX7_dropTry_5 : Db cX7_dropTry 5 (fun o => .ifCond .ne o) 8 10 := ⟨5, DX7_dropTry_c0.2.2.2.1, rfl, rfl⟩
theorem dX7_dropTry_8 : Dc cX7_dropTry 8 (.iconst (-1)) 1 9 := ⟨DX7_dropTry_c0.2.2.2.2.1, rfl⟩
theorem dX7_dropTry_9 : Dc cX7_dropTry 9 (.ireturn) 1 10 := ⟨DX7_dropTry_c0.2.2.2.2.2.1, rfl⟩
theorem dX7_dropTry_10 : Dc cX7_dropTry 10 (.aload_n 0) 1 11 := ⟨DX7_dropTry_c0.2.2.2.2.2.2.1, rfl⟩
theorem dX7_dropTry_11 : Dc cX7_dropTry 11 (.invokevirtual 53) 3 14 := ⟨DX7_dropTry_c0.2.2.2.2.2.2.2.1, rfl⟩
theorem dX7_dropTry_14 : Dc cX7_dropTry 14 (.aload_n 0) 1 15 := ⟨DX7_dropTry_c0.2.2.2.2.2.2.2.2.1, rfl⟩
theorem dX7_dropTry_15 : Dc cX7_dropTry 15 (.getfield 7) 3 18 := ⟨DX7_dropTry_c0.2.2.2.2.2.2.2.2.2.1, rfl⟩
theorem dX7_dropTry_18 : Dc cX7_dropTry 18 (.bipush 31) 2 20 := ⟨DX7_dropTry_c0.2.2.2.2.2.2.2.2.2.2.1, rfl⟩
theorem dX7_dropTry_20 : Dc cX7_dropTry 20 (.dup2) 1 21 := ⟨DX7_dropTry_c0.2.2.2.2.2.2.2.2.2.2.2.1, rfl⟩
theorem dX7_dropTry_21 : Dc cX7_dropTry 21 (.iaload) 1 22 := ⟨DX7_dropTry_c0.2.2.2.2.2.2.2.2.2.2.2.2.1, rfl⟩
theorem dX7_dropTry_22 : Dc cX7_dropTry 22 (.iconst 1) 1 23 := ⟨DX7_dropTry_c0.2.2.2.2.2.2.2.2.2.2.2.2.2.1, rfl⟩
theorem dX7_dropTry_23 : Dc cX7_dropTry 23 (.isub) 1 24 := ⟨DX7_dropTry_c0.2.2.2.2.2.2.2.2.2.2.2.2.2.2.1, rfl⟩
theorem dX7_dropTry_24 : Dc cX7_dropTry 24 (.iastore) 1 25 := ⟨DX7_dropTry_c0.2.2.2.2.2.2.2.2.2.2.2.2.2.2.2, rfl⟩
theorem DX7_dropTry_c1 : decode cX7_dropTry 25 = .ok (.bipush 38, 2) ∧ decode cX7_dropTry 27 = .ok (.bipush 25, 2) ∧ decode cX7_dropTry 29 = .ok (.iload_n 1, 1) ∧ decode cX7_dropTry 30 = .ok (.imul, 1) ∧ decode cX7_dropTry 31 = .ok (.iadd, 1) ∧ decode cX7_dropTry 32 = .ok (.istore_n 2, 1) ∧ decode cX7_dropTry 33 = .ok (.iload_n 2, 1) ∧ decode cX7_dropTry 34 = .ok (.sipush 188, 3) ∧ decode cX7_dropTry 37 = .ok (.if_icmp .ge 24, 3) ∧ decode cX7_dropTry 40 = .ok (.aload_n 0, 1) ∧ decode cX7_dropTry 41 = .ok (.getfield 7, 3) ∧ decode cX7_dropTry 44 = .ok (.iload_n 2, 1) ∧ decode cX7_dropTry 45 = .ok (.aload_n 0, 1) ∧ decode cX7_dropTry 46 = .ok (.getfield 7, 3) ∧ decode cX7_dropTry 49 = .ok (.iload_n 2, 1) ∧ decode cX7_dropTry 50 = .ok (.bipush 25, 2) := by decide +kernel
theorem dX7_dropTry_25 : Dc cX7_dropTry 25 (.bipush 38) 2 27 := ⟨DX7_dropTry_c1.1, rfl⟩
theorem dX7_dropTry_27 : Dc cX7_dropTry 27 (.bipush 25) 2 29 := ⟨DX7_dropTry_c1.2.1, rfl⟩
theorem dX7_dropTry_29 : Dc cX7_dropTry 29 (.iload_n 1) 1 30 := ⟨DX7_dropTry_c1.2.2.1, rfl⟩
theorem dX7_dropTry_30 : Dc cX7_dropTry 30 (.imul) 1 31 := ⟨DX7_dropTry_c1.2.2.2.1, rfl⟩
theorem dX7_dropTry_31 : Dc cX7_dropTry 31 (.iadd) 1 32 := ⟨DX7_dropTry_c1.2.2.2.2.1, rfl⟩
theorem dX7_dropTry_32 : Dc cX7_dropTry 32 (.istore_n 2) 1 33 := ⟨DX7_dropTry_c1.2.2.2.2.2.1, rfl⟩
theorem dX7_dropTry_33 : Dc cX7_dropTry 33 (.iload_n 2) 1 34 := ⟨DX7_dropTry_c1.2.2.2.2.2.2.1, rfl⟩
theorem dX7_dropTry_34 : Dc cX7_dropTry 34 (.sipush 188) 3 37 := ⟨DX7_dropTry_c1.2.2.2.2.2.2.2.1, rfl⟩
theorem dX7_dropTry_37 : Db cX7_dropTry 37 (fun o => .if_icmp .ge o) 40 61 := ⟨24, DX7_dropTry_c1.2.2.2.2.2.2.2.2.1, rfl, rfl⟩
theorem dX7_dropTry_40 : Dc cX7_dropTry 40 (.aload_n 0) 1 41 := ⟨DX7_dropTry_c1.2.2.2.2.2.2.2.2.2.1, rfl⟩
theorem dX7_dropTry_41 : Dc cX7_dropTry 41 (.getfield 7) 3 44 := ⟨DX7_dropTry_c1.2.2.2.2.2.2.2.2.2.2.1, rfl⟩
theorem dX7_dropTry_44 : Dc cX7_dropTry 44 (.iload_n 2) 1 45 := ⟨DX7_dropTry_c1.2.2.2.2.2.2.2.2.2.2.2.1, rfl⟩
theorem dX7_dropTry_45 : Dc cX7_dropTry 45 (.aload_n 0) 1 46 := ⟨DX7_dropTry_c1.2.2.2.2.2.2.2.2.2.2.2.2.1, rfl⟩
theorem dX7_dropTry_46 : Dc cX7_dropTry 46 (.getfield 7) 3 49 := ⟨DX7_dropTry_c1.2.2.2.2.2.2.2.2.2.2.2.2.2.1, rfl⟩
theorem dX7_dropTry_49 : Dc cX7_dropTry 49 (.iload_n 2) 1 50 := ⟨DX7_dropTry_c1.2.2.2.2.2.2.2.2.2.2.2.2.2.2.1, rfl⟩
theorem dX7_dropTry_50 : Dc cX7_dropTry 50 (.bipush 25) 2 52 := ⟨DX7_dropTry_c1.2.2.2.2.2.2.2.2.2.2.2.2.2.2.2, rfl⟩
theorem DX7_dropTry_c2 : decode cX7_dropTry 52 = .ok (.iadd, 1) ∧ decode cX7_dropTry 53 = .ok (.iaload, 1) ∧ decode cX7_dropTry 54 = .ok (.iastore, 1) ∧ decode cX7_dropTry 55 = .ok (.iinc 2 1, 3) ∧ decode cX7_dropTry 58 = .ok (.goto (-25), 3) ∧ decode cX7_dropTry 61 = .ok (.aload_n 0, 1) ∧ decode cX7_dropTry 62 = .ok (.getfield 7, 3) ∧ decode cX7_dropTry 65 = .ok (.bipush 31, 2) ∧ decode cX7_dropTry 67 = .ok (.iaload, 1) ∧ decode cX7_dropTry 68 = .ok (.ireturn, 1) := by decide +kernel
theorem dX7_dropTry_52 : Dc cX7_dropTry 52 (.iadd) 1 53 := ⟨DX7_dropTry_c2.1, rfl⟩
theorem dX7_dropTry_53 : Dc cX7_dropTry 53 (.iaload) 1 54 := ⟨DX7_dropTry_c2.2.1, rfl⟩
theorem dX7_dropTry_54 : Dc cX7_dropTry 54 (.iastore) 1 55 := ⟨DX7_dropTry_c2.2.2.1, rfl⟩
theorem dX7_dropTry_55 : Dc cX7_dropTry 55 (.iinc 2 1) 3 58 := ⟨DX7_dropTry_c2.2.2.2.1, rfl⟩
theorem dX7_dropTry_58 : Db cX7_dropTry 58 .goto 61 33 := ⟨-25, DX7_dropTry_c2.2.2.2.2.1, rfl, rfl⟩
theorem dX7_dropTry_61 : Dc cX7_dropTry 61 (.aload_n 0) 1 62 := ⟨DX7_dropTry_c2.2.2.2.2.2.1, rfl⟩
theorem dX7_dropTry_62 : Dc cX7_dropTry 62 (.getfield 7) 3 65 := ⟨DX7_dropTry_c2.2.2.2.2.2.2.1, rfl⟩
theorem dX7_dropTry_65 : Dc cX7_dropTry 65 (.bipush 31) 2 67 := ⟨DX7_dropTry_c2.2.2.2.2.2.2.2.1, rfl⟩
theorem dX7_dropTry_67 : Dc cX7_dropTry 67 (.iaload) 1 68 := ⟨DX7_dropTry_c2.2.2.2.2.2.2.2.2.1, rfl⟩
theorem dX7_dropTry_68 : Dc cX7_dropTry 68 (.ireturn) 1 69 := ⟨DX7_dropTry_c2.2.2.2.2.2.2.2.2.2, rfl⟩
theorem DX7_newLoop_c0 : decode cX7_newLoop 0 = .ok (.sipush 213, 3) ∧ decode cX7_newLoop 3 = .ok (.bipush 38, 2) ∧ decode cX7_newLoop 5 = .ok (.aload_n 0, 1) ∧ decode cX7_newLoop 6 = .ok (.getfield 7, 3) ∧ decode cX7_newLoop 9 = .ok (.bipush 33, 2) ∧ decode cX7_newLoop 11 = .ok (.iaload, 1) ∧ decode cX7_newLoop 12 = .ok (.imul, 1) ∧ decode cX7_newLoop 13 = .ok (.iadd, 1) ∧ decode cX7_newLoop 14 = .ok (.istore 4, 2) ∧ decode cX7_newLoop 16 = .ok (.aload_n 0, 1) ∧ decode cX7_newLoop 17 = .ok (.getfield 7, 3) ∧ decode cX7_newLoop 20 = .ok (.iload 4, 2) ∧ decode cX7_newLoop 22 = .ok (.iload_n 2, 1) ∧ decode cX7_newLoop 23 = .ok (.iastore, 1) ∧ decode cX7_newLoop 24 = .ok (.aload_n 0, 1) ∧ decode cX7_newLoop 25 = .ok (.getfield 7, 3) := by decide +kernel
theorem dX7_newLoop_0 : Dc cX7_newLoop 0 (.sipush 213) 3 3 := ⟨DX7_newLoop_c0.1, rfl⟩
theorem dX7_newLoop_3 : Dc cX7_newLoop 3 (.bipush 38) 2 5 := ⟨DX7_newLoop_c0.2.1, rfl⟩
theorem dX7_newLoop_5 : Dc cX7_newLoop 5 (.aload_n 0) 1 6 := ⟨DX7_newLoop_c0.2.2.1, rfl⟩
theorem dX7_newLoop_6 : Dc cX7_newLoop 6 (.getfield 7) 3 9 := ⟨DX7_newLoop_c0.2.2.2.1, rfl⟩
theorem dX7_newLoop_9 : Dc cX7_newLoop 9 (.bipush 33) 2 11 := ⟨DX7_newLoop_c0.2.2.2.2.1, rfl⟩
theorem dX7_newLoop_11 : Dc cX7_newLoop 11 (.iaload) 1 12 := ⟨DX7_newLoop_c0.2.2.2.2.2.1, rfl⟩
theorem dX7_newLoop_12 : Dc cX7_newLoop 12 (.imul) 1 13 := ⟨DX7_newLoop_c0.2.2.2.2.2.2.1, rfl⟩
theorem dX7_newLoop_13 : Dc cX7_newLoop 13 (.iadd) 1 14 := ⟨DX7_newLoop_c0.2.2.2.2.2.2.2.1, rfl⟩
theorem dX7_newLoop_14 : Dc cX7_newLoop 14 (.istore 4) 2 16 := ⟨DX7_newLoop_c0.2.2.2.2.2.2.2.2.1, rfl⟩
theorem dX7_newLoop_16 : Dc cX7_newLoop 16 (.aload_n 0) 1 17 := ⟨DX7_newLoop_c0.2.2.2.2.2.2.2.2.2.1, rfl⟩
theorem dX7_newLoop_17 : Dc cX7_newLoop 17 (.getfield 7) 3 20 := ⟨DX7_newLoop_c0.2.2.2.2.2.2.2.2.2.2.1, rfl⟩
theorem dX7_newLoop_20 : Dc cX7_newLoop 20 (.iload 4) 2 22 := ⟨DX7_newLoop_c0.2.2.2.2.2.2.2.2.2.2.2.1, rfl⟩
theorem dX7_newLoop_22 : Dc cX7_newLoop 22 (.iload_n 2) 1 23 := ⟨DX7_newLoop_c0.2.2.2.2.2.2.2.2.2.2.2.2.1, rfl⟩
theorem dX7_newLoop_23 : Dc cX7_newLoop 23 (.iastore) 1 24 := ⟨DX7_newLoop_c0.2.2.2.2.2.2.2.2.2.2.2.2.2.1, rfl⟩
theorem dX7_newLoop_24 : Dc cX7_newLoop 24 (.aload_n 0) 1 25 := ⟨DX7_newLoop_c0.2.2.2.2.2.2.2.2.2.2.2.2.2.2.1, rfl⟩
theorem dX7_newLoop_25 : Dc cX7_newLoop 25 (.getfield 7) 3 28 := ⟨DX7_newLoop_c0.2.2.2.2.2.2.2.2.2.2.2.2.2.2.2, rfl⟩
theorem DX7_newLoop_c1 : decode cX7_newLoop 28 = .ok (.iload 4, 2) ∧ decode cX7_newLoop 30 = .ok (.iconst 1, 1) ∧ decode cX7_newLoop 31 = .ok (.iadd, 1) ∧ decode cX7_newLoop 32 = .ok (.iload_n 3, 1) ∧ decode cX7_newLoop 33 = .ok (.iastore, 1) ∧ decode cX7_newLoop 34 = .ok (.iconst 0, 1) ∧ decode cX7_newLoop 35 = .ok (.istore 5, 2) ∧ decode cX7_newLoop 37 = .ok (.iload 5, 2) ∧ decode cX7_newLoop 39 = .ok (.iload_n 2, 1) ∧ decode cX7_newLoop 40 = .ok (.if_icmp .ge 51, 3) ∧ decode cX7_newLoop 43 = .ok (.aload_n 0, 1) ∧ decode cX7_newLoop 44 = .ok (.getfield 7, 3) ∧ decode cX7_newLoop 47 = .ok (.iload 4, 2) ∧ decode cX7_newLoop 49 = .ok (.iconst 2, 1) ∧ decode cX7_newLoop 50 = .ok (.iadd, 1) ∧ decode cX7_newLoop 51 = .ok (.iconst 3, 1) := by decide +kernel
theorem dX7_newLoop_28 : Dc cX7_newLoop 28 (.iload 4) 2 30 := ⟨DX7_newLoop_c1.1, rfl⟩
theorem dX7_newLoop_30 : Dc cX7_newLoop 30 (.iconst 1) 1 31 := ⟨DX7_newLoop_c1.2.1, rfl⟩
theorem dX7_newLoop_31 : Dc cX7_newLoop 31 (.iadd) 1 32 := ⟨DX7_newLoop_c1.2.2.1, rfl⟩
theorem dX7_newLoop_32 : Dc cX7_newLoop 32 (.iload_n 3) 1 33 := ⟨DX7_newLoop_c1.2.2.2.1, rfl⟩
theorem dX7_newLoop_33 : Dc cX7_newLoop 33 (.iastore) 1 34 := ⟨DX7_newLoop_c1.2.2.2.2.1, rfl⟩
theorem dX7_newLoop_34 : Dc cX7_newLoop 34 (.iconst 0) 1 35 := ⟨DX7_newLoop_c1.2.2.2.2.2.1, rfl⟩
theorem dX7_newLoop_35 : Dc cX7_newLoop 35 (.istore 5) 2 37 := ⟨DX7_newLoop_c1.2.2.2.2.2.2.1, rfl⟩
theorem dX7_newLoop_37 : Dc cX7_newLoop 37 (.iload 5) 2 39 := ⟨DX7_newLoop_c1.2.2.2.2.2.2.2.1, rfl⟩
theorem dX7_newLoop_39 : Dc cX7_newLoop 39 (.iload_n 2) 1 40 := ⟨DX7_newLoop_c1.2.2.2.2.2.2.2.2.1, rfl⟩
theorem dX7_newLoop_40 : Db cX7_newLoop 40 (fun o => .if_icmp .ge o) 43 91 := ⟨51, DX7_newLoop_c1.2.2.2.2.2.2.2.2.2.1, rfl, rfl⟩
theorem dX7_newLoop_43 : Dc cX7_newLoop 43 (.aload_n 0) 1 44 := ⟨DX7_newLoop_c1.2.2.2.2.2.2.2.2.2.2.1, rfl⟩
theorem dX7_newLoop_44 : Dc cX7_newLoop 44 (.getfield 7) 3 47 := ⟨DX7_newLoop_c1.2.2.2.2.2.2.2.2.2.2.2.1, rfl⟩
theorem dX7_newLoop_47 : Dc cX7_newLoop 47 (.iload 4) 2 49 := ⟨DX7_newLoop_c1.2.2.2.2.2.2.2.2.2.2.2.2.1, rfl⟩
theorem dX7_newLoop_49 : Dc cX7_newLoop 49 (.iconst 2) 1 50 := ⟨DX7_newLoop_c1.2.2.2.2.2.2.2.2.2.2.2.2.2.1, rfl⟩
theorem dX7_newLoop_50 : Dc cX7_newLoop 50 (.iadd) 1 51 := ⟨DX7_newLoop_c1.2.2.2.2.2.2.2.2.2.2.2.2.2.2.1, rfl⟩
theorem dX7_newLoop_51 : Dc cX7_newLoop 51 (.iconst 3) 1 52 := ⟨DX7_newLoop_c1.2.2.2.2.2.2.2.2.2.2.2.2.2.2.2, rfl⟩
theorem DX7_newLoop_c2 : decode cX7_newLoop 52 = .ok (.iload 5, 2) ∧ decode cX7_newLoop 54 = .ok (.imul, 1) ∧ decode cX7_newLoop 55 = .ok (.iadd, 1) ∧ decode cX7_newLoop 56 = .ok (.aload_n 0, 1) ∧ decode cX7_newLoop 57 = .ok (.iload_n 1, 1) ∧ decode cX7_newLoop 58 = .ok (.iload 5, 2) ∧ decode cX7_newLoop 60 = .ok (.invokevirtual 71, 3) ∧ decode cX7_newLoop 63 = .ok (.iastore, 1) ∧ decode cX7_newLoop 64 = .ok (.aload_n 0, 1) ∧ decode cX7_newLoop 65 = .ok (.getfield 7, 3) ∧ decode cX7_newLoop 68 = .ok (.iload 4, 2) ∧ decode cX7_newLoop 70 = .ok (.iconst 3, 1) ∧ decode cX7_newLoop 71 = .ok (.iadd, 1) ∧ decode cX7_newLoop 72 = .ok (.iconst 3, 1) ∧ decode cX7_newLoop 73 = .ok (.iload 5, 2) ∧ decode cX7_newLoop 75 = .ok (.imul, 1) := by decide +kernel
theorem dX7_newLoop_52 : Dc cX7_newLoop 52 (.iload 5) 2 54 := ⟨DX7_newLoop_c2.1, rfl⟩
theorem dX7_newLoop_54 : Dc cX7_newLoop 54 (.imul) 1 55 := ⟨DX7_newLoop_c2.2.1, rfl⟩
theorem dX7_newLoop_55 : Dc cX7_newLoop 55 (.iadd) 1 56 := ⟨DX7_newLoop_c2.2.2.1, rfl⟩
theorem dX7_newLoop_56 : Dc cX7_newLoop 56 (.aload_n 0) 1 57 := ⟨DX7_newLoop_c2.2.2.2.1, rfl⟩
theorem dX7_newLoop_57 : Dc cX7_newLoop 57 (.iload_n 1) 1 58 := ⟨DX7_newLoop_c2.2.2.2.2.1, rfl⟩
theorem dX7_newLoop_58 : Dc cX7_newLoop 58 (.iload 5) 2 60 := ⟨DX7_newLoop_c2.2.2.2.2.2.1, rfl⟩
theorem dX7_newLoop_60 : Dc cX7_newLoop 60 (.invokevirtual 71) 3 63 := ⟨DX7_newLoop_c2.2.2.2.2.2.2.1, rfl⟩
theorem dX7_newLoop_63 : Dc cX7_newLoop 63 (.iastore) 1 64 := ⟨DX7_newLoop_c2.2.2.2.2.2.2.2.1, rfl⟩
theorem dX7_newLoop_64 : Dc cX7_newLoop 64 (.aload_n 0) 1 65 := ⟨DX7_newLoop_c2.2.2.2.2.2.2.2.2.1, rfl⟩
theorem dX7_newLoop_65 : Dc cX7_newLoop 65 (.getfield 7) 3 68 := ⟨DX7_newLoop_c2.2.2.2.2.2.2.2.2.2.1, rfl⟩
theorem dX7_newLoop_68 : Dc cX7_newLoop 68 (.iload 4) 2 70 := ⟨DX7_newLoop_c2.2.2.2.2.2.2.2.2.2.2.1, rfl⟩
theorem dX7_newLoop_70 : Dc cX7_newLoop 70 (.iconst 3) 1 71 := ⟨DX7_newLoop_c2.2.2.2.2.2.2.2.2.2.2.2.1, rfl⟩
theorem dX7_newLoop_71 : Dc cX7_newLoop 71 (.iadd) 1 72 := ⟨DX7_newLoop_c2.2.2.2.2.2.2.2.2.2.2.2.2.1, rfl⟩
theorem dX7_newLoop_72 : Dc cX7_newLoop 72 (.iconst 3) 1 73 := ⟨DX7_newLoop_c2.2.2.2.2.2.2.2.2.2.2.2.2.2.1, rfl⟩
theorem dX7_newLoop_73 : Dc cX7_newLoop 73 (.iload 5) 2 75 := ⟨DX7_newLoop_c2.2.2.2.2.2.2.2.2.2.2.2.2.2.2.1, rfl⟩
theorem dX7_newLoop_75 : Dc cX7_newLoop 75 (.imul) 1 76 := ⟨DX7_newLoop_c2.2.2.2.2.2.2.2.2.2.2.2.2.2.2.2, rfl⟩
theorem DX7_newLoop_c3 : decode cX7_newLoop 76 = .ok (.iadd, 1) ∧ decode cX7_newLoop 77 = .ok (.aload_n 0, 1) ∧ decode cX7_newLoop 78 = .ok (.iload_n 1, 1) ∧ decode cX7_newLoop 79 = .ok (.iload 5, 2) ∧ decode cX7_newLoop 81 = .ok (.invokevirtual 75, 3) ∧ decode cX7_newLoop 84 = .ok (.iastore, 1) ∧ decode cX7_newLoop 85 = .ok (.iinc 5 1, 3) ∧ decode cX7_newLoop 88 = .ok (.goto (-51), 3) ∧ decode cX7_newLoop 91 = .ok (.aload_n 0, 1) ∧ decode cX7_newLoop 92 = .ok (.getfield 7, 3) ∧ decode cX7_newLoop 95 = .ok (.bipush 33, 2) ∧ decode cX7_newLoop 97 = .ok (.dup2, 1) ∧ decode cX7_newLoop 98 = .ok (.iaload, 1) ∧ decode cX7_newLoop 99 = .ok (.iconst 1, 1) ∧ decode cX7_newLoop 100 = .ok (.iadd, 1) ∧ decode cX7_newLoop 101 = .ok (.iastore, 1) := by decide +kernel
theorem dX7_newLoop_76 : Dc cX7_newLoop 76 (.iadd) 1 77 := ⟨DX7_newLoop_c3.1, rfl⟩
theorem dX7_newLoop_77 : Dc cX7_newLoop 77 (.aload_n 0) 1 78 := ⟨DX7_newLoop_c3.2.1, rfl⟩
theorem dX7_newLoop_78 : Dc cX7_newLoop 78 (.iload_n 1) 1 79 := ⟨DX7_newLoop_c3.2.2.1, rfl⟩
theorem dX7_newLoop_79 : Dc cX7_newLoop 79 (.iload 5) 2 81 := ⟨DX7_newLoop_c3.2.2.2.1, rfl⟩
theorem dX7_newLoop_81 : Dc cX7_newLoop 81 (.invokevirtual 75) 3 84 := ⟨DX7_newLoop_c3.2.2.2.2.1, rfl⟩
theorem dX7_newLoop_84 : Dc cX7_newLoop 84 (.iastore) 1 85 := ⟨DX7_newLoop_c3.2.2.2.2.2.1, rfl⟩
theorem dX7_newLoop_85 : Dc cX7_newLoop 85 (.iinc 5 1) 3 88 := ⟨DX7_newLoop_c3.2.2.2.2.2.2.1, rfl⟩
theorem dX7_newLoop_88 : Db cX7_newLoop 88 .goto 91 37 := ⟨-51, DX7_newLoop_c3.2.2.2.2.2.2.2.1, rfl, rfl⟩
theorem dX7_newLoop_91 : Dc cX7_newLoop 91 (.aload_n 0) 1 92 := ⟨DX7_newLoop_c3.2.2.2.2.2.2.2.2.1, rfl⟩
theorem dX7_newLoop_92 : Dc cX7_newLoop 92 (.getfield 7) 3 95 := ⟨DX7_newLoop_c3.2.2.2.2.2.2.2.2.2.1, rfl⟩
theorem dX7_newLoop_95 : Dc cX7_newLoop 95 (.bipush 33) 2 97 := ⟨DX7_newLoop_c3.2.2.2.2.2.2.2.2.2.2.1, rfl⟩
theorem dX7_newLoop_97 : Dc cX7_newLoop 97 (.dup2) 1 98 := ⟨DX7_newLoop_c3.2.2.2.2.2.2.2.2.2.2.2.1, rfl⟩
theorem dX7_newLoop_98 : Dc cX7_newLoop 98 (.iaload) 1 99 := ⟨DX7_newLoop_c3.2.2.2.2.2.2.2.2.2.2.2.2.1, rfl⟩
theorem dX7_newLoop_99 : Dc cX7_newLoop 99 (.iconst 1) 1 100 := ⟨DX7_newLoop_c3.2.2.2.2.2.2.2.2.2.2.2.2.2.1, rfl⟩
theorem dX7_newLoop_100 : Dc cX7_newLoop 100 (.iadd) 1 101 := ⟨DX7_newLoop_c3.2.2.2.2.2.2.2.2.2.2.2.2.2.2.1, rfl⟩
theorem dX7_newLoop_101 : Dc cX7_newLoop 101 (.iastore) 1 102 := ⟨DX7_newLoop_c3.2.2.2.2.2.2.2.2.2.2.2.2.2.2.2, rfl⟩
theorem DX7_newLoop_c4 : decode cX7_newLoop 102 = .ok (.aload_n 0, 1) ∧ decode cX7_newLoop 103 = .ok (.getfield 7, 3) ∧ decode cX7_newLoop 106 = .ok (.bipush 33, 2) ∧ decode cX7_newLoop 108 = .ok (.iaload, 1) ∧ decode cX7_newLoop 109 = .ok (.iconst 1, 1) ∧ decode cX7_newLoop 110 = .ok (.isub, 1) ∧ decode cX7_newLoop 111 = .ok (.ireturn, 1) := by decide +kernel
theorem dX7_newLoop_102 : Dc cX7_newLoop 102 (.aload_n 0) 1 103 := ⟨DX7_newLoop_c4.1, rfl⟩
theorem dX7_newLoop_103 : Dc cX7_newLoop 103 (.getfield 7) 3 106 := ⟨DX7_newLoop_c4.2.1, rfl⟩
theorem dX7_newLoop_106 : Dc cX7_newLoop 106 (.bipush 33) 2 108 := ⟨DX7_newLoop_c4.2.2.1, rfl⟩
theorem dX7_newLoop_108 : Dc cX7_newLoop 108 (.iaload) 1 109 := ⟨DX7_newLoop_c4.2.2.2.1, rfl⟩
theorem dX7_newLoop_109 : Dc cX7_newLoop 109 (.iconst 1) 1 110 := ⟨DX7_newLoop_c4.2.2.2.2.1, rfl⟩
theorem dX7_newLoop_110 : Dc cX7_newLoop 110 (.isub) 1 111 := ⟨DX7_newLoop_c4.2.2.2.2.2.1, rfl⟩
theorem dX7_newLoop_111 : Dc cX7_newLoop 111 (.ireturn) 1 112 := ⟨DX7_newLoop_c4.2.2.2.2.2.2, rfl⟩
theorem DX7_stride_c0 : decode cX7_stride 0 = .ok (.aload_n 0, 1) ∧ decode cX7_stride 1 = .ok (.getfield 7, 3) ∧ decode cX7_stride 4 = .ok (.sipush 213, 3) ∧ decode cX7_stride 7 = .ok (.bipush 38, 2) ∧ decode cX7_stride 9 = .ok (.iload_n 1, 1) ∧ decode cX7_stride 10 = .ok (.imul, 1) ∧ decode cX7_stride 11 = .ok (.iadd, 1) ∧ decode cX7_stride 12 = .ok (.iconst 4, 1) ∧ decode cX7_stride 13 = .ok (.iadd, 1) ∧ decode cX7_stride 14 = .ok (.iconst 3, 1) ∧ decode cX7_stride 15 = .ok (.iload_n 2, 1) ∧ decode cX7_stride 16 = .ok (.imul, 1) ∧ decode cX7_stride 17 = .ok (.iadd, 1) ∧ decode cX7_stride 18 = .ok (.iload_n 3, 1) ∧ decode cX7_stride 19 = .ok (.iastore, 1) ∧ decode cX7_stride 20 = .ok (.return_, 1) := by decide +kernel
theorem dX7_stride_0 : Dc cX7_stride 0 (.aload_n 0) 1 1 := ⟨DX7_stride_c0.1, rfl⟩
theorem dX7_stride_1 : Dc cX7_stride 1 (.getfield 7) 3 4 := ⟨DX7_stride_c0.2.1, rfl⟩
theorem dX7_stride_4 : Dc cX7_stride 4 (.sipush 213) 3 7 := ⟨DX7_stride_c0.2.2.1, rfl⟩
theorem dX7_stride_7 : Dc cX7_stride 7 (.bipush 38) 2 9 := ⟨DX7_stride_c0.2.2.2.1, rfl⟩
theorem dX7_stride_9 : Dc cX7_stride 9 (.iload_n 1) 1 10 := ⟨DX7_stride_c0.2.2.2.2.1, rfl⟩
theorem dX7_stride_10 : Dc cX7_stride 10 (.imul) 1 11 := ⟨DX7_stride_c0.2.2.2.2.2.1, rfl⟩
theorem dX7_stride_11 : Dc cX7_stride 11 (.iadd) 1 12 := ⟨DX7_stride_c0.2.2.2.2.2.2.1, rfl⟩
theorem dX7_stride_12 : Dc cX7_stride 12 (.iconst 4) 1 13 := ⟨DX7_stride_c0.2.2.2.2.2.2.2.1, rfl⟩
theorem dX7_stride_13 : Dc cX7_stride 13 (.iadd) 1 14 := ⟨DX7_stride_c0.2.2.2.2.2.2.2.2.1, rfl⟩
theorem dX7_stride_14 : Dc cX7_stride 14 (.iconst 3) 1 15 := ⟨DX7_stride_c0.2.2.2.2.2.2.2.2.2.1, rfl⟩
theorem dX7_stride_15 : Dc cX7_stride 15 (.iload_n 2) 1 16 := ⟨DX7_stride_c0.2.2.2.2.2.2.2.2.2.2.1, rfl⟩
theorem dX7_stride_16 : Dc cX7_stride 16 (.imul) 1 17 := ⟨DX7_stride_c0.2.2.2.2.2.2.2.2.2.2.2.1, rfl⟩
theorem dX7_stride_17 : Dc cX7_stride 17 (.iadd) 1 18 := ⟨DX7_stride_c0.2.2.2.2.2.2.2.2.2.2.2.2.1, rfl⟩
theorem dX7_stride_18 : Dc cX7_stride 18 (.iload_n 3) 1 19 := ⟨DX7_stride_c0.2.2.2.2.2.2.2.2.2.2.2.2.2.1, rfl⟩
theorem dX7_stride_19 : Dc cX7_stride 19 (.iastore) 1 20 := ⟨DX7_stride_c0.2.2.2.2.2.2.2.2.2.2.2.2.2.2.1, rfl⟩
theorem dX7_stride_20 : Dc cX7_stride 20 (.return_) 1 21 := ⟨DX7_stride_c0.2.2.2.2.2.2.2.2.2.2.2.2.2.2.2, rfl⟩
theorem DX7_areLike_c0 : decode cX7_areLike 0 = .ok (.aload_n 0, 1) ∧ decode cX7_areLike 1 = .ok (.iload_n 1, 1) ∧ decode cX7_areLike 2 = .ok (.invokevirtual 60, 3) ∧ decode cX7_areLike 5 = .ok (.aload_n 0, 1) ∧ decode cX7_areLike 6 = .ok (.iload_n 2, 1) ∧ decode cX7_areLike 7 = .ok (.invokevirtual 60, 3) ∧ decode cX7_areLike 10 = .ok (.if_icmp .ne 7, 3) ∧ decode cX7_areLike 13 = .ok (.iconst 1, 1) ∧ decode cX7_areLike 14 = .ok (.goto 4, 3) ∧ decode cX7_areLike 17 = .ok (.iconst 0, 1) ∧ decode cX7_areLike 18 = .ok (.istore_n 3, 1) ∧ decode cX7_areLike 19 = .ok (.iconst 0, 1) ∧ decode cX7_areLike 20 = .ok (.istore 4, 2) ∧ decode cX7_areLike 22 = .ok (.iload 4, 2) ∧ decode cX7_areLike 24 = .ok (.aload_n 0, 1) ∧ decode cX7_areLike 25 = .ok (.iload_n 1, 1) := by decide +kernel
theorem dX7_areLike_0 : Dc cX7_areLike 0 (.aload_n 0) 1 1 := ⟨DX7_areLike_c0.1, rfl⟩
theorem dX7_areLike_1 : Dc cX7_areLike 1 (.iload_n 1) 1 2 := ⟨DX7_areLike_c0.2.1, rfl⟩
theorem dX7_areLike_2 : Dc cX7_areLike 2 (.invokevirtual 60) 3 5 := ⟨DX7_areLike_c0.2.2.1, rfl⟩
theorem dX7_areLike_5 : Dc cX7_areLike 5 (.aload_n 0) 1 6 := ⟨DX7_areLike_c0.2.2.2.1, rfl⟩
theorem dX7_areLike_6 : Dc cX7_areLike 6 (.iload_n 2) 1 7 := ⟨DX7_areLike_c0.2.2.2.2.1, rfl⟩
theorem dX7_areLike_7 : Dc cX7_areLike 7 (.invokevirtual 60) 3 10 := ⟨DX7_areLike_c0.2.2.2.2.2.1, rfl⟩
theorem dX7_areLike_10 : Db cX7_areLike 10 (fun o => .if_icmp .ne o) 13 17 := ⟨7, DX7_areLike_c0.2.2.2.2.2.2.1, rfl, rfl⟩
theorem dX7_areLike_13 : Dc cX7_areLike 13 (.iconst 1) 1 14 := ⟨DX7_areLike_c0.2.2.2.2.2.2.2.1, rfl⟩
theorem dX7_areLike_14 : Db cX7_areLike 14 .goto 17 18 := ⟨4, DX7_areLike_c0.2.2.2.2.2.2.2.2.1, rfl, rfl⟩
theorem dX7_areLike_17 : Dc cX7_areLike 17 (.iconst 0) 1 18 := ⟨DX7_areLike_c0.2.2.2.2.2.2.2.2.2.1, rfl⟩
theorem dX7_areLike_18 : Dc cX7_areLike 18 (.istore_n 3) 1 19 := ⟨DX7_areLike_c0.2.2.2.2.2.2.2.2.2.2.1, rfl⟩
theorem dX7_areLike_19 : Dc cX7_areLike 19 (.iconst 0) 1 20 := ⟨DX7_areLike_c0.2.2.2.2.2.2.2.2.2.2.2.1, rfl⟩
theorem dX7_areLike_20 : Dc cX7_areLike 20 (.istore 4) 2 22 := ⟨DX7_areLike_c0.2.2.2.2.2.2.2.2.2.2.2.2.1, rfl⟩
theorem dX7_areLike_22 : Dc cX7_areLike 22 (.iload 4) 2 24 := ⟨DX7_areLike_c0.2.2.2.2.2.2.2.2.2.2.2.2.2.1, rfl⟩
theorem dX7_areLike_24 : Dc cX7_areLike 24 (.aload_n 0) 1 25 := ⟨DX7_areLike_c0.2.2.2.2.2.2.2.2.2.2.2.2.2.2.1, rfl⟩
theorem dX7_areLike_25 : Dc cX7_areLike 25 (.iload_n 1) 1 26 := ⟨DX7_areLike_c0.2.2.2.2.2.2.2.2.2.2.2.2.2.2.2, rfl⟩
theorem DX7_areLike_c1 : decode cX7_areLike 26 = .ok (.invokevirtual 60, 3) ∧ decode cX7_areLike 29 = .ok (.if_icmp .ge 36, 3) ∧ decode cX7_areLike 32 = .ok (.iload_n 3, 1) ∧ decode cX7_areLike 33 = .ok (.ifCond .eq 32, 3) ∧ decode cX7_areLike 36 = .ok (.aload_n 0, 1) ∧ decode cX7_areLike 37 = .ok (.iload_n 1, 1) ∧ decode cX7_areLike 38 = .ok (.iload 4, 2) ∧ decode cX7_areLike 40 = .ok (.invokevirtual 71, 3) ∧ decode cX7_areLike 43 = .ok (.aload_n 0, 1) ∧ decode cX7_areLike 44 = .ok (.iload_n 2, 1) ∧ decode cX7_areLike 45 = .ok (.iload 4, 2) ∧ decode cX7_areLike 47 = .ok (.invokevirtual 71, 3) ∧ decode cX7_areLike 50 = .ok (.if_icmp .ne 7, 3) ∧ decode cX7_areLike 53 = .ok (.iconst 1, 1) ∧ decode cX7_areLike 54 = .ok (.goto 4, 3) ∧ decode cX7_areLike 57 = .ok (.iconst 0, 1) := by decide +kernel
theorem dX7_areLike_26 : Dc cX7_areLike 26 (.invokevirtual 60) 3 29 := ⟨DX7_areLike_c1.1, rfl⟩
theorem dX7_areLike_29 : Db cX7_areLike 29 (fun o => .if_icmp .ge o) 32 65 := ⟨36, DX7_areLike_c1.2.1, rfl, rfl⟩
theorem dX7_areLike_32 : Dc cX7_areLike 32 (.iload_n 3) 1 33 := ⟨DX7_areLike_c1.2.2.1, rfl⟩
theorem dX7_areLike_33 : Db cX7_areLike 33 (fun o => .ifCond .eq o) 36 65 := ⟨32, DX7_areLike_c1.2.2.2.1, rfl, rfl⟩
theorem dX7_areLike_36 : Dc cX7_areLike 36 (.aload_n 0) 1 37 := ⟨DX7_areLike_c1.2.2.2.2.1, rfl⟩
theorem dX7_areLike_37 : Dc cX7_areLike 37 (.iload_n 1) 1 38 := ⟨DX7_areLike_c1.2.2.2.2.2.1, rfl⟩
theorem dX7_areLike_38 : Dc cX7_areLike 38 (.iload 4) 2 40 := ⟨DX7_areLike_c1.2.2.2.2.2.2.1, rfl⟩
theorem dX7_areLike_40 : Dc cX7_areLike 40 (.invokevirtual 71) 3 43 := ⟨DX7_areLike_c1.2.2.2.2.2.2.2.1, rfl⟩
theorem dX7_areLike_43 : Dc cX7_areLike 43 (.aload_n 0) 1 44 := ⟨DX7_areLike_c1.2.2.2.2.2.2.2.2.1, rfl⟩
theorem dX7_areLike_44 : Dc cX7_areLike 44 (.iload_n 2) 1 45 := ⟨DX7_areLike_c1.2.2.2.2.2.2.2.2.2.1, rfl⟩
theorem dX7_areLike_45 : Dc cX7_areLike 45 (.iload 4) 2 47 := ⟨DX7_areLike_c1.2.2.2.2.2.2.2.2.2.2.1, rfl⟩
theorem dX7_areLike_47 : Dc cX7_areLike 47 (.invokevirtual 71) 3 50 := ⟨DX7_areLike_c1.2.2.2.2.2.2.2.2.2.2.2.1, rfl⟩
theorem dX7_areLike_50 : Db cX7_areLike 50 (fun o => .if_icmp .ne o) 53 57 := ⟨7, DX7_areLike_c1.2.2.2.2.2.2.2.2.2.2.2.2.1, rfl, rfl⟩
theorem dX7_areLike_53 : Dc cX7_areLike 53 (.iconst 1) 1 54 := ⟨DX7_areLike_c1.2.2.2.2.2.2.2.2.2.2.2.2.2.1, rfl⟩
theorem dX7_areLike_54 : Db cX7_areLike 54 .goto 57 58 := ⟨4, DX7_areLike_c1.2.2.2.2.2.2.2.2.2.2.2.2.2.2.1, rfl, rfl⟩
theorem dX7_areLike_57 : Dc cX7_areLike 57 (.iconst 0) 1 58 := ⟨DX7_areLike_c1.2.2.2.2.2.2.2.2.2.2.2.2.2.2.2, rfl⟩
theorem DX7_areLike_c2 : decode cX7_areLike 58 = .ok (.istore_n 3, 1) ∧ decode cX7_areLike 59 = .ok (.iinc 4 1, 3) ∧ decode cX7_areLike 62 = .ok (.goto (-40), 3) ∧ decode cX7_areLike 65 = .ok (.iload_n 3, 1) ∧ decode cX7_areLike 66 = .ok (.ireturn, 1) := by decide +kernel
theorem dX7_areLike_58 : Dc cX7_areLike 58 (.istore_n 3) 1 59 := ⟨DX7_areLike_c2.1, rfl⟩
theorem dX7_areLike_59 : Dc cX7_areLike 59 (.iinc 4 1) 3 62 := ⟨DX7_areLike_c2.2.1, rfl⟩
theorem dX7_areLike_62 : Db cX7_areLike 62 .goto 65 22 := ⟨-40, DX7_areLike_c2.2.2.1, rfl, rfl⟩
theorem dX7_areLike_65 : Dc cX7_areLike 65 (.iload_n 3) 1 66 := ⟨DX7_areLike_c2.2.2.2.1, rfl⟩
theorem dX7_areLike_66 : Dc cX7_areLike 66 (.ireturn) 1 67 := ⟨DX7_areLike_c2.2.2.2.2, rfl⟩
theorem DX7_generalise_c0 : decode cX7_generalise 0 = .ok (.aload_n 0, 1) ∧ decode cX7_generalise 1 = .ok (.iload_n 1, 1) ∧ decode cX7_generalise 2 = .ok (.invokevirtual 67, 3) ∧ decode cX7_generalise 5 = .ok (.ifCond .eq 11, 3) ∧ decode cX7_generalise 8 = .ok (.aload_n 0, 1) ∧ decode cX7_generalise 9 = .ok (.iload_n 2, 1) ∧ decode cX7_generalise 10 = .ok (.invokevirtual 67, 3) ∧ decode cX7_generalise 13 = .ok (.ifCond .ne 5, 3) ∧ decode cX7_generalise 16 = .ok (.iconst (-1), 1) ∧ decode cX7_generalise 17 = .ok (.ireturn, 1) ∧ decode cX7_generalise 18 = .ok (.iload_n 1, 1) ∧ decode cX7_generalise 19 = .ok (.iload_n 2, 1) ∧ decode cX7_generalise 20 = .ok (.if_icmp .eq 12, 3) ∧ decode cX7_generalise 23 = .ok (.aload_n 0, 1) ∧ decode cX7_generalise 24 = .ok (.iload_n 1, 1) ∧ decode cX7_generalise 25 = .ok (.iload_n 2, 1) := by decide +kernel
theorem dX7_generalise_0 : Dc cX7_generalise 0 (.aload_n 0) 1 1 := ⟨DX7_generalise_c0.1, rfl⟩
theorem dX7_generalise_1 : Dc cX7_generalise 1 (.iload_n 1) 1 2 := ⟨DX7_generalise_c0.2.1, rfl⟩
theorem dX7_generalise_2 : Dc cX7_generalise 2 (.invokevirtual 67) 3 5 := ⟨DX7_generalise_c0.2.2.1, rfl⟩
theorem dX7_generalise_5 : Db cX7_generalise 5 (fun o => .ifCond .eq o) 8 16 := ⟨11, DX7_generalise_c0.2.2.2.1, rfl, rfl⟩
theorem dX7_generalise_8 : Dc cX7_generalise 8 (.aload_n 0) 1 9 := ⟨DX7_generalise_c0.2.2.2.2.1, rfl⟩
theorem dX7_generalise_9 : Dc cX7_generalise 9 (.iload_n 2) 1 10 := ⟨DX7_generalise_c0.2.2.2.2.2.1, rfl⟩
theorem dX7_generalise_10 : Dc cX7_generalise 10 (.invokevirtual 67) 3 13 := ⟨DX7_generalise_c0.2.2.2.2.2.2.1, rfl⟩
theorem dX7_generalise_13 : Db cX7_generalise 13 (fun o => .ifCond .ne o) 16 18 := ⟨5, DX7_generalise_c0.2.2.2.2.2.2.2.1, rfl, rfl⟩
theorem dX7_generalise_16 : Dc cX7_generalise 16 (.iconst (-1)) 1 17 := ⟨DX7_generalise_c0.2.2.2.2.2.2.2.2.1, rfl⟩
theorem dX7_generalise_17 : Dc cX7_generalise 17 (.ireturn) 1 18 := ⟨DX7_generalise_c0.2.2.2.2.2.2.2.2.2.1, rfl⟩
theorem dX7_generalise_18 : Dc cX7_generalise 18 (.iload_n 1) 1 19 := ⟨DX7_generalise_c0.2.2.2.2.2.2.2.2.2.2.1, rfl⟩
theorem dX7_generalise_19 : Dc cX7_generalise 19 (.iload_n 2) 1 20 := ⟨DX7_generalise_c0.2.2.2.2.2.2.2.2.2.2.2.1, rfl⟩
theorem dX7_generalise_20 : Db cX7_generalise 20 (fun o => .if_icmp .eq o) 23 32 := ⟨12, DX7_generalise_c0.2.2.2.2.2.2.2.2.2.2.2.2.1, rfl, rfl⟩
theorem dX7_generalise_23 : Dc cX7_generalise 23 (.aload_n 0) 1 24 := ⟨DX7_generalise_c0.2.2.2.2.2.2.2.2.2.2.2.2.2.1, rfl⟩
theorem dX7_generalise_24 : Dc cX7_generalise 24 (.iload_n 1) 1 25 := ⟨DX7_generalise_c0.2.2.2.2.2.2.2.2.2.2.2.2.2.2.1, rfl⟩
theorem dX7_generalise_25 : Dc cX7_generalise 25 (.iload_n 2) 1 26 := ⟨DX7_generalise_c0.2.2.2.2.2.2.2.2.2.2.2.2.2.2.2, rfl⟩
theorem DX7_generalise_c1 : decode cX7_generalise 26 = .ok (.invokevirtual 78, 3) ∧ decode cX7_generalise 29 = .ok (.ifCond .ne 6, 3) ∧ decode cX7_generalise 32 = .ok (.bipush (-4), 2) ∧ decode cX7_generalise 34 = .ok (.ireturn, 1) ∧ decode cX7_generalise 35 = .ok (.aload_n 0, 1) ∧ decode cX7_generalise 36 = .ok (.getfield 7, 3) ∧ decode cX7_generalise 39 = .ok (.bipush 33, 2) ∧ decode cX7_generalise 41 = .ok (.iaload, 1) ∧ decode cX7_generalise 42 = .ok (.bipush 6, 2) ∧ decode cX7_generalise 44 = .ok (.if_icmp .ne 6, 3) ∧ decode cX7_generalise 47 = .ok (.bipush (-3), 2) ∧ decode cX7_generalise 49 = .ok (.ireturn, 1) ∧ decode cX7_generalise 50 = .ok (.aload_n 0, 1) ∧ decode cX7_generalise 51 = .ok (.invokevirtual 53, 3) ∧ decode cX7_generalise 54 = .ok (.aload_n 0, 1) ∧ decode cX7_generalise 55 = .ok (.iload_n 1, 1) := by decide +kernel
theorem dX7_generalise_26 : Dc cX7_generalise 26 (.invokevirtual 78) 3 29 := ⟨DX7_generalise_c1.1, rfl⟩
theorem dX7_generalise_29 : Db cX7_generalise 29 (fun o => .ifCond .ne o) 32 35 := ⟨6, DX7_generalise_c1.2.1, rfl, rfl⟩
theorem dX7_generalise_32 : Dc cX7_generalise 32 (.bipush (-4)) 2 34 := ⟨DX7_generalise_c1.2.2.1, rfl⟩
theorem dX7_generalise_34 : Dc cX7_generalise 34 (.ireturn) 1 35 := ⟨DX7_generalise_c1.2.2.2.1, rfl⟩
theorem dX7_generalise_35 : Dc cX7_generalise 35 (.aload_n 0) 1 36 := ⟨DX7_generalise_c1.2.2.2.2.1, rfl⟩
theorem dX7_generalise_36 : Dc cX7_generalise 36 (.getfield 7) 3 39 := ⟨DX7_generalise_c1.2.2.2.2.2.1, rfl⟩
theorem dX7_generalise_39 : Dc cX7_generalise 39 (.bipush 33) 2 41 := ⟨DX7_generalise_c1.2.2.2.2.2.2.1, rfl⟩
theorem dX7_generalise_41 : Dc cX7_generalise 41 (.iaload) 1 42 := ⟨DX7_generalise_c1.2.2.2.2.2.2.2.1, rfl⟩
theorem dX7_generalise_42 : Dc cX7_generalise 42 (.bipush 6) 2 44 := ⟨DX7_generalise_c1.2.2.2.2.2.2.2.2.1, rfl⟩
theorem dX7_generalise_44 : Db cX7_generalise 44 (fun o => .if_icmp .ne o) 47 50 := ⟨6, DX7_generalise_c1.2.2.2.2.2.2.2.2.2.1, rfl, rfl⟩
theorem dX7_generalise_47 : Dc cX7_generalise 47 (.bipush (-3)) 2 49 := ⟨DX7_generalise_c1.2.2.2.2.2.2.2.2.2.2.1, rfl⟩
theorem dX7_generalise_49 : Dc cX7_generalise 49 (.ireturn) 1 50 := ⟨DX7_generalise_c1.2.2.2.2.2.2.2.2.2.2.2.1, rfl⟩
theorem dX7_generalise_50 : Dc cX7_generalise 50 (.aload_n 0) 1 51 := ⟨DX7_generalise_c1.2.2.2.2.2.2.2.2.2.2.2.2.1, rfl⟩
theorem dX7_generalise_51 : Dc cX7_generalise 51 (.invokevirtual 53) 3 54 := ⟨DX7_generalise_c1.2.2.2.2.2.2.2.2.2.2.2.2.2.1, rfl⟩
theorem dX7_generalise_54 : Dc cX7_generalise 54 (.aload_n 0) 1 55 := ⟨DX7_generalise_c1.2.2.2.2.2.2.2.2.2.2.2.2.2.2.1, rfl⟩
theorem dX7_generalise_55 : Dc cX7_generalise 55 (.iload_n 1) 1 56 := ⟨DX7_generalise_c1.2.2.2.2.2.2.2.2.2.2.2.2.2.2.2, rfl⟩
theorem DX7_generalise_c2 : decode cX7_generalise 56 = .ok (.aload_n 0, 1) ∧ decode cX7_generalise 57 = .ok (.iload_n 1, 1) ∧ decode cX7_generalise 58 = .ok (.invokevirtual 60, 3) ∧ decode cX7_generalise 61 = .ok (.iconst 2, 1) ∧ decode cX7_generalise 62 = .ok (.invokevirtual 81, 3) ∧ decode cX7_generalise 65 = .ok (.istore_n 3, 1) ∧ decode cX7_generalise 66 = .ok (.iconst 0, 1) ∧ decode cX7_generalise 67 = .ok (.istore 4, 2) ∧ decode cX7_generalise 69 = .ok (.iload 4, 2) ∧ decode cX7_generalise 71 = .ok (.aload_n 0, 1) ∧ decode cX7_generalise 72 = .ok (.iload_n 1, 1) ∧ decode cX7_generalise 73 = .ok (.invokevirtual 60, 3) ∧ decode cX7_generalise 76 = .ok (.if_icmp .ge 31, 3) ∧ decode cX7_generalise 79 = .ok (.aload_n 0, 1) ∧ decode cX7_generalise 80 = .ok (.iload_n 3, 1) ∧ decode cX7_generalise 81 = .ok (.iload 4, 2) := by decide +kernel
theorem dX7_generalise_56 : Dc cX7_generalise 56 (.aload_n 0) 1 57 := ⟨DX7_generalise_c2.1, rfl⟩
theorem dX7_generalise_57 : Dc cX7_generalise 57 (.iload_n 1) 1 58 := ⟨DX7_generalise_c2.2.1, rfl⟩
theorem dX7_generalise_58 : Dc cX7_generalise 58 (.invokevirtual 60) 3 61 := ⟨DX7_generalise_c2.2.2.1, rfl⟩
theorem dX7_generalise_61 : Dc cX7_generalise 61 (.iconst 2) 1 62 := ⟨DX7_generalise_c2.2.2.2.1, rfl⟩
theorem dX7_generalise_62 : Dc cX7_generalise 62 (.invokevirtual 81) 3 65 := ⟨DX7_generalise_c2.2.2.2.2.1, rfl⟩
theorem dX7_generalise_65 : Dc cX7_generalise 65 (.istore_n 3) 1 66 := ⟨DX7_generalise_c2.2.2.2.2.2.1, rfl⟩
theorem dX7_generalise_66 : Dc cX7_generalise 66 (.iconst 0) 1 67 := ⟨DX7_generalise_c2.2.2.2.2.2.2.1, rfl⟩
theorem dX7_generalise_67 : Dc cX7_generalise 67 (.istore 4) 2 69 := ⟨DX7_generalise_c2.2.2.2.2.2.2.2.1, rfl⟩
theorem dX7_generalise_69 : Dc cX7_generalise 69 (.iload 4) 2 71 := ⟨DX7_generalise_c2.2.2.2.2.2.2.2.2.1, rfl⟩
theorem dX7_generalise_71 : Dc cX7_generalise 71 (.aload_n 0) 1 72 := ⟨DX7_generalise_c2.2.2.2.2.2.2.2.2.2.1, rfl⟩
theorem dX7_generalise_72 : Dc cX7_generalise 72 (.iload_n 1) 1 73 := ⟨DX7_generalise_c2.2.2.2.2.2.2.2.2.2.2.1, rfl⟩
theorem dX7_generalise_73 : Dc cX7_generalise 73 (.invokevirtual 60) 3 76 := ⟨DX7_generalise_c2.2.2.2.2.2.2.2.2.2.2.2.1, rfl⟩
theorem dX7_generalise_76 : Db cX7_generalise 76 (fun o => .if_icmp .ge o) 79 107 := ⟨31, DX7_generalise_c2.2.2.2.2.2.2.2.2.2.2.2.2.1, rfl, rfl⟩
theorem dX7_generalise_79 : Dc cX7_generalise 79 (.aload_n 0) 1 80 := ⟨DX7_generalise_c2.2.2.2.2.2.2.2.2.2.2.2.2.2.1, rfl⟩
theorem dX7_generalise_80 : Dc cX7_generalise 80 (.iload_n 3) 1 81 := ⟨DX7_generalise_c2.2.2.2.2.2.2.2.2.2.2.2.2.2.2.1, rfl⟩
theorem dX7_generalise_81 : Dc cX7_generalise 81 (.iload 4) 2 83 := ⟨DX7_generalise_c2.2.2.2.2.2.2.2.2.2.2.2.2.2.2.2, rfl⟩
theorem DX7_generalise_c3 : decode cX7_generalise 83 = .ok (.aload_n 0, 1) ∧ decode cX7_generalise 84 = .ok (.iload_n 2, 1) ∧ decode cX7_generalise 85 = .ok (.iload 4, 2) ∧ decode cX7_generalise 87 = .ok (.invokevirtual 75, 3) ∧ decode cX7_generalise 90 = .ok (.aload_n 0, 1) ∧ decode cX7_generalise 91 = .ok (.iload_n 1, 1) ∧ decode cX7_generalise 92 = .ok (.iload 4, 2) ∧ decode cX7_generalise 94 = .ok (.invokevirtual 75, 3) ∧ decode cX7_generalise 97 = .ok (.isub, 1) ∧ decode cX7_generalise 98 = .ok (.invokevirtual 85, 3) ∧ decode cX7_generalise 101 = .ok (.iinc 4 1, 3) ∧ decode cX7_generalise 104 = .ok (.goto (-35), 3) ∧ decode cX7_generalise 107 = .ok (.iload_n 3, 1) ∧ decode cX7_generalise 108 = .ok (.ireturn, 1) := by decide +kernel
theorem dX7_generalise_83 : Dc cX7_generalise 83 (.aload_n 0) 1 84 := ⟨DX7_generalise_c3.1, rfl⟩
theorem dX7_generalise_84 : Dc cX7_generalise 84 (.iload_n 2) 1 85 := ⟨DX7_generalise_c3.2.1, rfl⟩
theorem dX7_generalise_85 : Dc cX7_generalise 85 (.iload 4) 2 87 := ⟨DX7_generalise_c3.2.2.1, rfl⟩
theorem dX7_generalise_87 : Dc cX7_generalise 87 (.invokevirtual 75) 3 90 := ⟨DX7_generalise_c3.2.2.2.1, rfl⟩
theorem dX7_generalise_90 : Dc cX7_generalise 90 (.aload_n 0) 1 91 := ⟨DX7_generalise_c3.2.2.2.2.1, rfl⟩
theorem dX7_generalise_91 : Dc cX7_generalise 91 (.iload_n 1) 1 92 := ⟨DX7_generalise_c3.2.2.2.2.2.1, rfl⟩
theorem dX7_generalise_92 : Dc cX7_generalise 92 (.iload 4) 2 94 := ⟨DX7_generalise_c3.2.2.2.2.2.2.1, rfl⟩
theorem dX7_generalise_94 : Dc cX7_generalise 94 (.invokevirtual 75) 3 97 := ⟨DX7_generalise_c3.2.2.2.2.2.2.2.1, rfl⟩
theorem dX7_generalise_97 : Dc cX7_generalise 97 (.isub) 1 98 := ⟨DX7_generalise_c3.2.2.2.2.2.2.2.2.1, rfl⟩
theorem dX7_generalise_98 : Dc cX7_generalise 98 (.invokevirtual 85) 3 101 := ⟨DX7_generalise_c3.2.2.2.2.2.2.2.2.2.1, rfl⟩
theorem dX7_generalise_101 : Dc cX7_generalise 101 (.iinc 4 1) 3 104 := ⟨DX7_generalise_c3.2.2.2.2.2.2.2.2.2.2.1, rfl⟩
theorem dX7_generalise_104 : Db cX7_generalise 104 .goto 107 69 := ⟨-35, DX7_generalise_c3.2.2.2.2.2.2.2.2.2.2.2.1, rfl, rfl⟩
theorem dX7_generalise_107 : Dc cX7_generalise 107 (.iload_n 3) 1 108 := ⟨DX7_generalise_c3.2.2.2.2.2.2.2.2.2.2.2.2.1, rfl⟩
theorem dX7_generalise_108 : Dc cX7_generalise 108 (.ireturn) 1 109 := ⟨DX7_generalise_c3.2.2.2.2.2.2.2.2.2.2.2.2.2, rfl⟩
theorem DX7_canFold_c0 : decode cX7_canFold 0 = .ok (.aload_n 0, 1) ∧ decode cX7_canFold 1 = .ok (.iload_n 1, 1) ∧ decode cX7_canFold 2 = .ok (.invokevirtual 60, 3) ∧ decode cX7_canFold 5 = .ok (.istore_n 3, 1) ∧ decode cX7_canFold 6 = .ok (.iload_n 3, 1) ∧ decode cX7_canFold 7 = .ok (.iload_n 2, 1) ∧ decode cX7_canFold 8 = .ok (.irem, 1) ∧ decode cX7_canFold 9 = .ok (.ifCond .ne 14, 3) ∧ decode cX7_canFold 12 = .ok (.iload_n 3, 1) ∧ decode cX7_canFold 13 = .ok (.iconst 2, 1) ∧ decode cX7_canFold 14 = .ok (.iload_n 2, 1) ∧ decode cX7_canFold 15 = .ok (.imul, 1) ∧ decode cX7_canFold 16 = .ok (.if_icmp .lt 7, 3) ∧ decode cX7_canFold 19 = .ok (.iconst 1, 1) ∧ decode cX7_canFold 20 = .ok (.goto 4, 3) ∧ decode cX7_canFold 23 = .ok (.iconst 0, 1) := by decide +kernel
theorem dX7_canFold_0 : Dc cX7_canFold 0 (.aload_n 0) 1 1 := ⟨DX7_canFold_c0.1, rfl⟩
theorem dX7_canFold_1 : Dc cX7_canFold 1 (.iload_n 1) 1 2 := ⟨DX7_canFold_c0.2.1, rfl⟩
theorem dX7_canFold_2 : Dc cX7_canFold 2 (.invokevirtual 60) 3 5 := ⟨DX7_canFold_c0.2.2.1, rfl⟩
theorem dX7_canFold_5 : Dc cX7_canFold 5 (.istore_n 3) 1 6 := ⟨DX7_canFold_c0.2.2.2.1, rfl⟩
theorem dX7_canFold_6 : Dc cX7_canFold 6 (.iload_n 3) 1 7 := ⟨DX7_canFold_c0.2.2.2.2.1, rfl⟩
theorem dX7_canFold_7 : Dc cX7_canFold 7 (.iload_n 2) 1 8 := ⟨DX7_canFold_c0.2.2.2.2.2.1, rfl⟩
theorem dX7_canFold_8 : Dc cX7_canFold 8 (.irem) 1 9 := ⟨DX7_canFold_c0.2.2.2.2.2.2.1, rfl⟩
theorem dX7_canFold_9 : Db cX7_canFold 9 (fun o => .ifCond .ne o) 12 23 := ⟨14, DX7_canFold_c0.2.2.2.2.2.2.2.1, rfl, rfl⟩
theorem dX7_canFold_12 : Dc cX7_canFold 12 (.iload_n 3) 1 13 := ⟨DX7_canFold_c0.2.2.2.2.2.2.2.2.1, rfl⟩
theorem dX7_canFold_13 : Dc cX7_canFold 13 (.iconst 2) 1 14 := ⟨DX7_canFold_c0.2.2.2.2.2.2.2.2.2.1, rfl⟩
theorem dX7_canFold_14 : Dc cX7_canFold 14 (.iload_n 2) 1 15 := ⟨DX7_canFold_c0.2.2.2.2.2.2.2.2.2.2.1, rfl⟩
theorem dX7_canFold_15 : Dc cX7_canFold 15 (.imul) 1 16 := ⟨DX7_canFold_c0.2.2.2.2.2.2.2.2.2.2.2.1, rfl⟩
theorem dX7_canFold_16 : Db cX7_canFold 16 (fun o => .if_icmp .lt o) 19 23 := ⟨7, DX7_canFold_c0.2.2.2.2.2.2.2.2.2.2.2.2.1, rfl, rfl⟩
theorem dX7_canFold_19 : Dc cX7_canFold 19 (.iconst 1) 1 20 := ⟨DX7_canFold_c0.2.2.2.2.2.2.2.2.2.2.2.2.2.1, rfl⟩
theorem dX7_canFold_20 : Db cX7_canFold 20 .goto 23 24 := ⟨4, DX7_canFold_c0.2.2.2.2.2.2.2.2.2.2.2.2.2.2.1, rfl, rfl⟩
theorem dX7_canFold_23 : Dc cX7_canFold 23 (.iconst 0) 1 24 := ⟨DX7_canFold_c0.2.2.2.2.2.2.2.2.2.2.2.2.2.2.2, rfl⟩
theorem DX7_canFold_c1 : decode cX7_canFold 24 = .ok (.istore 4, 2) ∧ decode cX7_canFold 26 = .ok (.iload_n 2, 1) ∧ decode cX7_canFold 27 = .ok (.istore 5, 2) ∧ decode cX7_canFold 29 = .ok (.iload 5, 2) ∧ decode cX7_canFold 31 = .ok (.iload_n 3, 1) ∧ decode cX7_canFold 32 = .ok (.if_icmp .ge 85, 3) ∧ decode cX7_canFold 35 = .ok (.iload 4, 2) ∧ decode cX7_canFold 37 = .ok (.ifCond .eq 80, 3) ∧ decode cX7_canFold 40 = .ok (.aload_n 0, 1) ∧ decode cX7_canFold 41 = .ok (.iload_n 1, 1) ∧ decode cX7_canFold 42 = .ok (.iload 5, 2) ∧ decode cX7_canFold 44 = .ok (.iload_n 2, 1) ∧ decode cX7_canFold 45 = .ok (.irem, 1) ∧ decode cX7_canFold 46 = .ok (.iload_n 2, 1) ∧ decode cX7_canFold 47 = .ok (.iadd, 1) ∧ decode cX7_canFold 48 = .ok (.invokevirtual 75, 3) := by decide +kernel
theorem dX7_canFold_24 : Dc cX7_canFold 24 (.istore 4) 2 26 := ⟨DX7_canFold_c1.1, rfl⟩
theorem dX7_canFold_26 : Dc cX7_canFold 26 (.iload_n 2) 1 27 := ⟨DX7_canFold_c1.2.1, rfl⟩
theorem dX7_canFold_27 : Dc cX7_canFold 27 (.istore 5) 2 29 := ⟨DX7_canFold_c1.2.2.1, rfl⟩
theorem dX7_canFold_29 : Dc cX7_canFold 29 (.iload 5) 2 31 := ⟨DX7_canFold_c1.2.2.2.1, rfl⟩
theorem dX7_canFold_31 : Dc cX7_canFold 31 (.iload_n 3) 1 32 := ⟨DX7_canFold_c1.2.2.2.2.1, rfl⟩
theorem dX7_canFold_32 : Db cX7_canFold 32 (fun o => .if_icmp .ge o) 35 117 := ⟨85, DX7_canFold_c1.2.2.2.2.2.1, rfl, rfl⟩
theorem dX7_canFold_35 : Dc cX7_canFold 35 (.iload 4) 2 37 := ⟨DX7_canFold_c1.2.2.2.2.2.2.1, rfl⟩
theorem dX7_canFold_37 : Db cX7_canFold 37 (fun o => .ifCond .eq o) 40 117 := ⟨80, DX7_canFold_c1.2.2.2.2.2.2.2.1, rfl, rfl⟩
theorem dX7_canFold_40 : Dc cX7_canFold 40 (.aload_n 0) 1 41 := ⟨DX7_canFold_c1.2.2.2.2.2.2.2.2.1, rfl⟩
theorem dX7_canFold_41 : Dc cX7_canFold 41 (.iload_n 1) 1 42 := ⟨DX7_canFold_c1.2.2.2.2.2.2.2.2.2.1, rfl⟩
theorem dX7_canFold_42 : Dc cX7_canFold 42 (.iload 5) 2 44 := ⟨DX7_canFold_c1.2.2.2.2.2.2.2.2.2.2.1, rfl⟩
theorem dX7_canFold_44 : Dc cX7_canFold 44 (.iload_n 2) 1 45 := ⟨DX7_canFold_c1.2.2.2.2.2.2.2.2.2.2.2.1, rfl⟩
theorem dX7_canFold_45 : Dc cX7_canFold 45 (.irem) 1 46 := ⟨DX7_canFold_c1.2.2.2.2.2.2.2.2.2.2.2.2.1, rfl⟩
theorem dX7_canFold_46 : Dc cX7_canFold 46 (.iload_n 2) 1 47 := ⟨DX7_canFold_c1.2.2.2.2.2.2.2.2.2.2.2.2.2.1, rfl⟩
theorem dX7_canFold_47 : Dc cX7_canFold 47 (.iadd) 1 48 := ⟨DX7_canFold_c1.2.2.2.2.2.2.2.2.2.2.2.2.2.2.1, rfl⟩
theorem dX7_canFold_48 : Dc cX7_canFold 48 (.invokevirtual 75) 3 51 := ⟨DX7_canFold_c1.2.2.2.2.2.2.2.2.2.2.2.2.2.2.2, rfl⟩
theorem DX7_canFold_c2 : decode cX7_canFold 51 = .ok (.aload_n 0, 1) ∧ decode cX7_canFold 52 = .ok (.iload_n 1, 1) ∧ decode cX7_canFold 53 = .ok (.iload 5, 2) ∧ decode cX7_canFold 55 = .ok (.iload_n 2, 1) ∧ decode cX7_canFold 56 = .ok (.irem, 1) ∧ decode cX7_canFold 57 = .ok (.invokevirtual 75, 3) ∧ decode cX7_canFold 60 = .ok (.isub, 1) ∧ decode cX7_canFold 61 = .ok (.istore 6, 2) ∧ decode cX7_canFold 63 = .ok (.aload_n 0, 1) ∧ decode cX7_canFold 64 = .ok (.iload_n 1, 1) ∧ decode cX7_canFold 65 = .ok (.iload 5, 2) ∧ decode cX7_canFold 67 = .ok (.invokevirtual 71, 3) ∧ decode cX7_canFold 70 = .ok (.aload_n 0, 1) ∧ decode cX7_canFold 71 = .ok (.iload_n 1, 1) ∧ decode cX7_canFold 72 = .ok (.iload 5, 2) ∧ decode cX7_canFold 74 = .ok (.iload_n 2, 1) := by decide +kernel
theorem dX7_canFold_51 : Dc cX7_canFold 51 (.aload_n 0) 1 52 := ⟨DX7_canFold_c2.1, rfl⟩
theorem dX7_canFold_52 : Dc cX7_canFold 52 (.iload_n 1) 1 53 := ⟨DX7_canFold_c2.2.1, rfl⟩
theorem dX7_canFold_53 : Dc cX7_canFold 53 (.iload 5) 2 55 := ⟨DX7_canFold_c2.2.2.1, rfl⟩
theorem dX7_canFold_55 : Dc cX7_canFold 55 (.iload_n 2) 1 56 := ⟨DX7_canFold_c2.2.2.2.1, rfl⟩
theorem dX7_canFold_56 : Dc cX7_canFold 56 (.irem) 1 57 := ⟨DX7_canFold_c2.2.2.2.2.1, rfl⟩
theorem dX7_canFold_57 : Dc cX7_canFold 57 (.invokevirtual 75) 3 60 := ⟨DX7_canFold_c2.2.2.2.2.2.1, rfl⟩
theorem dX7_canFold_60 : Dc cX7_canFold 60 (.isub) 1 61 := ⟨DX7_canFold_c2.2.2.2.2.2.2.1, rfl⟩
theorem dX7_canFold_61 : Dc cX7_canFold 61 (.istore 6) 2 63 := ⟨DX7_canFold_c2.2.2.2.2.2.2.2.1, rfl⟩
theorem dX7_canFold_63 : Dc cX7_canFold 63 (.aload_n 0) 1 64 := ⟨DX7_canFold_c2.2.2.2.2.2.2.2.2.1, rfl⟩
theorem dX7_canFold_64 : Dc cX7_canFold 64 (.iload_n 1) 1 65 := ⟨DX7_canFold_c2.2.2.2.2.2.2.2.2.2.1, rfl⟩
theorem dX7_canFold_65 : Dc cX7_canFold 65 (.iload 5) 2 67 := ⟨DX7_canFold_c2.2.2.2.2.2.2.2.2.2.2.1, rfl⟩
theorem dX7_canFold_67 : Dc cX7_canFold 67 (.invokevirtual 71) 3 70 := ⟨DX7_canFold_c2.2.2.2.2.2.2.2.2.2.2.2.1, rfl⟩
theorem dX7_canFold_70 : Dc cX7_canFold 70 (.aload_n 0) 1 71 := ⟨DX7_canFold_c2.2.2.2.2.2.2.2.2.2.2.2.2.1, rfl⟩
theorem dX7_canFold_71 : Dc cX7_canFold 71 (.iload_n 1) 1 72 := ⟨DX7_canFold_c2.2.2.2.2.2.2.2.2.2.2.2.2.2.1, rfl⟩
theorem dX7_canFold_72 : Dc cX7_canFold 72 (.iload 5) 2 74 := ⟨DX7_canFold_c2.2.2.2.2.2.2.2.2.2.2.2.2.2.2.1, rfl⟩
theorem dX7_canFold_74 : Dc cX7_canFold 74 (.iload_n 2) 1 75 := ⟨DX7_canFold_c2.2.2.2.2.2.2.2.2.2.2.2.2.2.2.2, rfl⟩
theorem DX7_canFold_c3 : decode cX7_canFold 75 = .ok (.isub, 1) ∧ decode cX7_canFold 76 = .ok (.invokevirtual 71, 3) ∧ decode cX7_canFold 79 = .ok (.if_icmp .ne 29, 3) ∧ decode cX7_canFold 82 = .ok (.aload_n 0, 1) ∧ decode cX7_canFold 83 = .ok (.iload_n 1, 1) ∧ decode cX7_canFold 84 = .ok (.iload 5, 2) ∧ decode cX7_canFold 86 = .ok (.invokevirtual 75, 3) ∧ decode cX7_canFold 89 = .ok (.aload_n 0, 1) ∧ decode cX7_canFold 90 = .ok (.iload_n 1, 1) ∧ decode cX7_canFold 91 = .ok (.iload 5, 2) ∧ decode cX7_canFold 93 = .ok (.iload_n 2, 1) ∧ decode cX7_canFold 94 = .ok (.isub, 1) ∧ decode cX7_canFold 95 = .ok (.invokevirtual 75, 3) ∧ decode cX7_canFold 98 = .ok (.isub, 1) ∧ decode cX7_canFold 99 = .ok (.iload 6, 2) ∧ decode cX7_canFold 101 = .ok (.if_icmp .ne 7, 3) := by decide +kernel
theorem dX7_canFold_75 : Dc cX7_canFold 75 (.isub) 1 76 := ⟨DX7_canFold_c3.1, rfl⟩
theorem dX7_canFold_76 : Dc cX7_canFold 76 (.invokevirtual 71) 3 79 := ⟨DX7_canFold_c3.2.1, rfl⟩
theorem dX7_canFold_79 : Db cX7_canFold 79 (fun o => .if_icmp .ne o) 82 108 := ⟨29, DX7_canFold_c3.2.2.1, rfl, rfl⟩
theorem dX7_canFold_82 : Dc cX7_canFold 82 (.aload_n 0) 1 83 := ⟨DX7_canFold_c3.2.2.2.1, rfl⟩
theorem dX7_canFold_83 : Dc cX7_canFold 83 (.iload_n 1) 1 84 := ⟨DX7_canFold_c3.2.2.2.2.1, rfl⟩
theorem dX7_canFold_84 : Dc cX7_canFold 84 (.iload 5) 2 86 := ⟨DX7_canFold_c3.2.2.2.2.2.1, rfl⟩
theorem dX7_canFold_86 : Dc cX7_canFold 86 (.invokevirtual 75) 3 89 := ⟨DX7_canFold_c3.2.2.2.2.2.2.1, rfl⟩
theorem dX7_canFold_89 : Dc cX7_canFold 89 (.aload_n 0) 1 90 := ⟨DX7_canFold_c3.2.2.2.2.2.2.2.1, rfl⟩
theorem dX7_canFold_90 : Dc cX7_canFold 90 (.iload_n 1) 1 91 := ⟨DX7_canFold_c3.2.2.2.2.2.2.2.2.1, rfl⟩
theorem dX7_canFold_91 : Dc cX7_canFold 91 (.iload 5) 2 93 := ⟨DX7_canFold_c3.2.2.2.2.2.2.2.2.2.1, rfl⟩
theorem dX7_canFold_93 : Dc cX7_canFold 93 (.iload_n 2) 1 94 := ⟨DX7_canFold_c3.2.2.2.2.2.2.2.2.2.2.1, rfl⟩
theorem dX7_canFold_94 : Dc cX7_canFold 94 (.isub) 1 95 := ⟨DX7_canFold_c3.2.2.2.2.2.2.2.2.2.2.2.1, rfl⟩
theorem dX7_canFold_95 : Dc cX7_canFold 95 (.invokevirtual 75) 3 98 := ⟨DX7_canFold_c3.2.2.2.2.2.2.2.2.2.2.2.2.1, rfl⟩
theorem dX7_canFold_98 : Dc cX7_canFold 98 (.isub) 1 99 := ⟨DX7_canFold_c3.2.2.2.2.2.2.2.2.2.2.2.2.2.1, rfl⟩
theorem dX7_canFold_99 : Dc cX7_canFold 99 (.iload 6) 2 101 := ⟨DX7_canFold_c3.2.2.2.2.2.2.2.2.2.2.2.2.2.2.1, rfl⟩
theorem dX7_canFold_101 : Db cX7_canFold 101 (fun o => .if_icmp .ne o) 104 108 := ⟨7, DX7_canFold_c3.2.2.2.2.2.2.2.2.2.2.2.2.2.2.2, rfl, rfl⟩
theorem DX7_canFold_c4 : decode cX7_canFold 104 = .ok (.iconst 1, 1) ∧ decode cX7_canFold 105 = .ok (.goto 4, 3) ∧ decode cX7_canFold 108 = .ok (.iconst 0, 1) ∧ decode cX7_canFold 109 = .ok (.istore 4, 2) ∧ decode cX7_canFold 111 = .ok (.iinc 5 1, 3) ∧ decode cX7_canFold 114 = .ok (.goto (-85), 3) ∧ decode cX7_canFold 117 = .ok (.iload 4, 2) ∧ decode cX7_canFold 119 = .ok (.ireturn, 1) := by decide +kernel
theorem dX7_canFold_104 : Dc cX7_canFold 104 (.iconst 1) 1 105 := ⟨DX7_canFold_c4.1, rfl⟩
theorem dX7_canFold_105 : Db cX7_canFold 105 .goto 108 109 := ⟨4, DX7_canFold_c4.2.1, rfl, rfl⟩
theorem dX7_canFold_108 : Dc cX7_canFold 108 (.iconst 0) 1 109 := ⟨DX7_canFold_c4.2.2.1, rfl⟩
theorem dX7_canFold_109 : Dc cX7_canFold 109 (.istore 4) 2 111 := ⟨DX7_canFold_c4.2.2.2.1, rfl⟩
theorem dX7_canFold_111 : Dc cX7_canFold 111 (.iinc 5 1) 3 114 := ⟨DX7_canFold_c4.2.2.2.2.1, rfl⟩
theorem dX7_canFold_114 : Db cX7_canFold 114 .goto 117 29 := ⟨-85, DX7_canFold_c4.2.2.2.2.2.1, rfl, rfl⟩
theorem dX7_canFold_117 : Dc cX7_canFold 117 (.iload 4) 2 119 := ⟨DX7_canFold_c4.2.2.2.2.2.2.1, rfl⟩
theorem dX7_canFold_119 : Dc cX7_canFold 119 (.ireturn) 1 120 := ⟨DX7_canFold_c4.2.2.2.2.2.2.2, rfl⟩
theorem DX7_fold_c0 : decode cX7_fold 0 = .ok (.aload_n 0, 1) ∧ decode cX7_fold 1 = .ok (.iload_n 1, 1) ∧ decode cX7_fold 2 = .ok (.invokevirtual 67, 3) ∧ decode cX7_fold 5 = .ok (.ifCond .ne 5, 3) ∧ decode cX7_fold 8 = .ok (.iconst (-1), 1) ∧ decode cX7_fold 9 = .ok (.ireturn, 1) ∧ decode cX7_fold 10 = .ok (.iconst 1, 1) ∧ decode cX7_fold 11 = .ok (.istore_n 2, 1) ∧ decode cX7_fold 12 = .ok (.iload_n 2, 1) ∧ decode cX7_fold 13 = .ok (.bipush 12, 2) ∧ decode cX7_fold 15 = .ok (.if_icmp .gt 18, 3) ∧ decode cX7_fold 18 = .ok (.aload_n 0, 1) ∧ decode cX7_fold 19 = .ok (.iload_n 1, 1) ∧ decode cX7_fold 20 = .ok (.iload_n 2, 1) ∧ decode cX7_fold 21 = .ok (.invokevirtual 89, 3) ∧ decode cX7_fold 24 = .ok (.ifCond .ne 9, 3) := by decide +kernel
theorem dX7_fold_0 : Dc cX7_fold 0 (.aload_n 0) 1 1 := ⟨DX7_fold_c0.1, rfl⟩
theorem dX7_fold_1 : Dc cX7_fold 1 (.iload_n 1) 1 2 := ⟨DX7_fold_c0.2.1, rfl⟩
theorem dX7_fold_2 : Dc cX7_fold 2 (.invokevirtual 67) 3 5 := ⟨DX7_fold_c0.2.2.1, rfl⟩
theorem dX7_fold_5 : Db cX7_fold 5 (fun o => .ifCond .ne o) 8 10 := ⟨5, DX7_fold_c0.2.2.2.1, rfl, rfl⟩
theorem dX7_fold_8 : Dc cX7_fold 8 (.iconst (-1)) 1 9 := ⟨DX7_fold_c0.2.2.2.2.1, rfl⟩
theorem dX7_fold_9 : Dc cX7_fold 9 (.ireturn) 1 10 := ⟨DX7_fold_c0.2.2.2.2.2.1, rfl⟩
theorem dX7_fold_10 : Dc cX7_fold 10 (.iconst 1) 1 11 := ⟨DX7_fold_c0.2.2.2.2.2.2.1, rfl⟩
theorem dX7_fold_11 : Dc cX7_fold 11 (.istore_n 2) 1 12 := ⟨DX7_fold_c0.2.2.2.2.2.2.2.1, rfl⟩
theorem dX7_fold_12 : Dc cX7_fold 12 (.iload_n 2) 1 13 := ⟨DX7_fold_c0.2.2.2.2.2.2.2.2.1, rfl⟩
theorem dX7_fold_13 : Dc cX7_fold 13 (.bipush 12) 2 15 := ⟨DX7_fold_c0.2.2.2.2.2.2.2.2.2.1, rfl⟩
theorem dX7_fold_15 : Db cX7_fold 15 (fun o => .if_icmp .gt o) 18 33 := ⟨18, DX7_fold_c0.2.2.2.2.2.2.2.2.2.2.1, rfl, rfl⟩
theorem dX7_fold_18 : Dc cX7_fold 18 (.aload_n 0) 1 19 := ⟨DX7_fold_c0.2.2.2.2.2.2.2.2.2.2.2.1, rfl⟩
theorem dX7_fold_19 : Dc cX7_fold 19 (.iload_n 1) 1 20 := ⟨DX7_fold_c0.2.2.2.2.2.2.2.2.2.2.2.2.1, rfl⟩
theorem dX7_fold_20 : Dc cX7_fold 20 (.iload_n 2) 1 21 := ⟨DX7_fold_c0.2.2.2.2.2.2.2.2.2.2.2.2.2.1, rfl⟩
theorem dX7_fold_21 : Dc cX7_fold 21 (.invokevirtual 89) 3 24 := ⟨DX7_fold_c0.2.2.2.2.2.2.2.2.2.2.2.2.2.2.1, rfl⟩
theorem dX7_fold_24 : Db cX7_fold 24 (fun o => .ifCond .ne o) 27 33 := ⟨9, DX7_fold_c0.2.2.2.2.2.2.2.2.2.2.2.2.2.2.2, rfl, rfl⟩
theorem DX7_fold_c1 : decode cX7_fold 27 = .ok (.iinc 2 1, 3) ∧ decode cX7_fold 30 = .ok (.goto (-18), 3) ∧ decode cX7_fold 33 = .ok (.iload_n 2, 1) ∧ decode cX7_fold 34 = .ok (.bipush 12, 2) ∧ decode cX7_fold 36 = .ok (.if_icmp .le 6, 3) ∧ decode cX7_fold 39 = .ok (.bipush (-4), 2) ∧ decode cX7_fold 41 = .ok (.ireturn, 1) ∧ decode cX7_fold 42 = .ok (.aload_n 0, 1) ∧ decode cX7_fold 43 = .ok (.getfield 7, 3) ∧ decode cX7_fold 46 = .ok (.bipush 33, 2) ∧ decode cX7_fold 48 = .ok (.iaload, 1) ∧ decode cX7_fold 49 = .ok (.bipush 6, 2) ∧ decode cX7_fold 51 = .ok (.if_icmp .ne 6, 3) ∧ decode cX7_fold 54 = .ok (.bipush (-3), 2) ∧ decode cX7_fold 56 = .ok (.ireturn, 1) ∧ decode cX7_fold 57 = .ok (.aload_n 0, 1) := by decide +kernel
theorem dX7_fold_27 : Dc cX7_fold 27 (.iinc 2 1) 3 30 := ⟨DX7_fold_c1.1, rfl⟩
theorem dX7_fold_30 : Db cX7_fold 30 .goto 33 12 := ⟨-18, DX7_fold_c1.2.1, rfl, rfl⟩
theorem dX7_fold_33 : Dc cX7_fold 33 (.iload_n 2) 1 34 := ⟨DX7_fold_c1.2.2.1, rfl⟩
theorem dX7_fold_34 : Dc cX7_fold 34 (.bipush 12) 2 36 := ⟨DX7_fold_c1.2.2.2.1, rfl⟩
theorem dX7_fold_36 : Db cX7_fold 36 (fun o => .if_icmp .le o) 39 42 := ⟨6, DX7_fold_c1.2.2.2.2.1, rfl, rfl⟩
theorem dX7_fold_39 : Dc cX7_fold 39 (.bipush (-4)) 2 41 := ⟨DX7_fold_c1.2.2.2.2.2.1, rfl⟩
theorem dX7_fold_41 : Dc cX7_fold 41 (.ireturn) 1 42 := ⟨DX7_fold_c1.2.2.2.2.2.2.1, rfl⟩
theorem dX7_fold_42 : Dc cX7_fold 42 (.aload_n 0) 1 43 := ⟨DX7_fold_c1.2.2.2.2.2.2.2.1, rfl⟩
theorem dX7_fold_43 : Dc cX7_fold 43 (.getfield 7) 3 46 := ⟨DX7_fold_c1.2.2.2.2.2.2.2.2.1, rfl⟩
theorem dX7_fold_46 : Dc cX7_fold 46 (.bipush 33) 2 48 := ⟨DX7_fold_c1.2.2.2.2.2.2.2.2.2.1, rfl⟩
theorem dX7_fold_48 : Dc cX7_fold 48 (.iaload) 1 49 := ⟨DX7_fold_c1.2.2.2.2.2.2.2.2.2.2.1, rfl⟩
theorem dX7_fold_49 : Dc cX7_fold 49 (.bipush 6) 2 51 := ⟨DX7_fold_c1.2.2.2.2.2.2.2.2.2.2.2.1, rfl⟩
theorem dX7_fold_51 : Db cX7_fold 51 (fun o => .if_icmp .ne o) 54 57 := ⟨6, DX7_fold_c1.2.2.2.2.2.2.2.2.2.2.2.2.1, rfl, rfl⟩
theorem dX7_fold_54 : Dc cX7_fold 54 (.bipush (-3)) 2 56 := ⟨DX7_fold_c1.2.2.2.2.2.2.2.2.2.2.2.2.2.1, rfl⟩
theorem dX7_fold_56 : Dc cX7_fold 56 (.ireturn) 1 57 := ⟨DX7_fold_c1.2.2.2.2.2.2.2.2.2.2.2.2.2.2.1, rfl⟩
theorem dX7_fold_57 : Dc cX7_fold 57 (.aload_n 0) 1 58 := ⟨DX7_fold_c1.2.2.2.2.2.2.2.2.2.2.2.2.2.2.2, rfl⟩
theorem DX7_fold_c2 : decode cX7_fold 58 = .ok (.invokevirtual 53, 3) ∧ decode cX7_fold 61 = .ok (.aload_n 0, 1) ∧ decode cX7_fold 62 = .ok (.iload_n 1, 1) ∧ decode cX7_fold 63 = .ok (.iload_n 2, 1) ∧ decode cX7_fold 64 = .ok (.aload_n 0, 1) ∧ decode cX7_fold 65 = .ok (.iload_n 1, 1) ∧ decode cX7_fold 66 = .ok (.invokevirtual 60, 3) ∧ decode cX7_fold 69 = .ok (.iload_n 2, 1) ∧ decode cX7_fold 70 = .ok (.idiv, 1) ∧ decode cX7_fold 71 = .ok (.invokevirtual 81, 3) ∧ decode cX7_fold 74 = .ok (.istore_n 3, 1) ∧ decode cX7_fold 75 = .ok (.iconst 0, 1) ∧ decode cX7_fold 76 = .ok (.istore 4, 2) ∧ decode cX7_fold 78 = .ok (.iload 4, 2) ∧ decode cX7_fold 80 = .ok (.iload_n 2, 1) ∧ decode cX7_fold 81 = .ok (.if_icmp .ge 33, 3) := by decide +kernel
theorem dX7_fold_58 : Dc cX7_fold 58 (.invokevirtual 53) 3 61 := ⟨DX7_fold_c2.1, rfl⟩
theorem dX7_fold_61 : Dc cX7_fold 61 (.aload_n 0) 1 62 := ⟨DX7_fold_c2.2.1, rfl⟩
theorem dX7_fold_62 : Dc cX7_fold 62 (.iload_n 1) 1 63 := ⟨DX7_fold_c2.2.2.1, rfl⟩
theorem dX7_fold_63 : Dc cX7_fold 63 (.iload_n 2) 1 64 := ⟨DX7_fold_c2.2.2.2.1, rfl⟩
theorem dX7_fold_64 : Dc cX7_fold 64 (.aload_n 0) 1 65 := ⟨DX7_fold_c2.2.2.2.2.1, rfl⟩
theorem dX7_fold_65 : Dc cX7_fold 65 (.iload_n 1) 1 66 := ⟨DX7_fold_c2.2.2.2.2.2.1, rfl⟩
theorem dX7_fold_66 : Dc cX7_fold 66 (.invokevirtual 60) 3 69 := ⟨DX7_fold_c2.2.2.2.2.2.2.1, rfl⟩
theorem dX7_fold_69 : Dc cX7_fold 69 (.iload_n 2) 1 70 := ⟨DX7_fold_c2.2.2.2.2.2.2.2.1, rfl⟩
theorem dX7_fold_70 : Dc cX7_fold 70 (.idiv) 1 71 := ⟨DX7_fold_c2.2.2.2.2.2.2.2.2.1, rfl⟩
theorem dX7_fold_71 : Dc cX7_fold 71 (.invokevirtual 81) 3 74 := ⟨DX7_fold_c2.2.2.2.2.2.2.2.2.2.1, rfl⟩
theorem dX7_fold_74 : Dc cX7_fold 74 (.istore_n 3) 1 75 := ⟨DX7_fold_c2.2.2.2.2.2.2.2.2.2.2.1, rfl⟩
theorem dX7_fold_75 : Dc cX7_fold 75 (.iconst 0) 1 76 := ⟨DX7_fold_c2.2.2.2.2.2.2.2.2.2.2.2.1, rfl⟩
theorem dX7_fold_76 : Dc cX7_fold 76 (.istore 4) 2 78 := ⟨DX7_fold_c2.2.2.2.2.2.2.2.2.2.2.2.2.1, rfl⟩
theorem dX7_fold_78 : Dc cX7_fold 78 (.iload 4) 2 80 := ⟨DX7_fold_c2.2.2.2.2.2.2.2.2.2.2.2.2.2.1, rfl⟩
theorem dX7_fold_80 : Dc cX7_fold 80 (.iload_n 2) 1 81 := ⟨DX7_fold_c2.2.2.2.2.2.2.2.2.2.2.2.2.2.2.1, rfl⟩
theorem dX7_fold_81 : Db cX7_fold 81 (fun o => .if_icmp .ge o) 84 114 := ⟨33, DX7_fold_c2.2.2.2.2.2.2.2.2.2.2.2.2.2.2.2, rfl, rfl⟩
theorem DX7_fold_c3 : decode cX7_fold 84 = .ok (.aload_n 0, 1) ∧ decode cX7_fold 85 = .ok (.iload_n 3, 1) ∧ decode cX7_fold 86 = .ok (.iload 4, 2) ∧ decode cX7_fold 88 = .ok (.aload_n 0, 1) ∧ decode cX7_fold 89 = .ok (.iload_n 1, 1) ∧ decode cX7_fold 90 = .ok (.iload 4, 2) ∧ decode cX7_fold 92 = .ok (.iload_n 2, 1) ∧ decode cX7_fold 93 = .ok (.iadd, 1) ∧ decode cX7_fold 94 = .ok (.invokevirtual 75, 3) ∧ decode cX7_fold 97 = .ok (.aload_n 0, 1) ∧ decode cX7_fold 98 = .ok (.iload_n 1, 1) ∧ decode cX7_fold 99 = .ok (.iload 4, 2) ∧ decode cX7_fold 101 = .ok (.invokevirtual 75, 3) ∧ decode cX7_fold 104 = .ok (.isub, 1) ∧ decode cX7_fold 105 = .ok (.invokevirtual 85, 3) ∧ decode cX7_fold 108 = .ok (.iinc 4 1, 3) := by decide +kernel
theorem dX7_fold_84 : Dc cX7_fold 84 (.aload_n 0) 1 85 := ⟨DX7_fold_c3.1, rfl⟩
theorem dX7_fold_85 : Dc cX7_fold 85 (.iload_n 3) 1 86 := ⟨DX7_fold_c3.2.1, rfl⟩
theorem dX7_fold_86 : Dc cX7_fold 86 (.iload 4) 2 88 := ⟨DX7_fold_c3.2.2.1, rfl⟩
theorem dX7_fold_88 : Dc cX7_fold 88 (.aload_n 0) 1 89 := ⟨DX7_fold_c3.2.2.2.1, rfl⟩
theorem dX7_fold_89 : Dc cX7_fold 89 (.iload_n 1) 1 90 := ⟨DX7_fold_c3.2.2.2.2.1, rfl⟩
theorem dX7_fold_90 : Dc cX7_fold 90 (.iload 4) 2 92 := ⟨DX7_fold_c3.2.2.2.2.2.1, rfl⟩
theorem dX7_fold_92 : Dc cX7_fold 92 (.iload_n 2) 1 93 := ⟨DX7_fold_c3.2.2.2.2.2.2.1, rfl⟩
theorem dX7_fold_93 : Dc cX7_fold 93 (.iadd) 1 94 := ⟨DX7_fold_c3.2.2.2.2.2.2.2.1, rfl⟩
theorem dX7_fold_94 : Dc cX7_fold 94 (.invokevirtual 75) 3 97 := ⟨DX7_fold_c3.2.2.2.2.2.2.2.2.1, rfl⟩
theorem dX7_fold_97 : Dc cX7_fold 97 (.aload_n 0) 1 98 := ⟨DX7_fold_c3.2.2.2.2.2.2.2.2.2.1, rfl⟩
theorem dX7_fold_98 : Dc cX7_fold 98 (.iload_n 1) 1 99 := ⟨DX7_fold_c3.2.2.2.2.2.2.2.2.2.2.1, rfl⟩
theorem dX7_fold_99 : Dc cX7_fold 99 (.iload 4) 2 101 := ⟨DX7_fold_c3.2.2.2.2.2.2.2.2.2.2.2.1, rfl⟩
theorem dX7_fold_101 : Dc cX7_fold 101 (.invokevirtual 75) 3 104 := ⟨DX7_fold_c3.2.2.2.2.2.2.2.2.2.2.2.2.1, rfl⟩
theorem dX7_fold_104 : Dc cX7_fold 104 (.isub) 1 105 := ⟨DX7_fold_c3.2.2.2.2.2.2.2.2.2.2.2.2.2.1, rfl⟩
theorem dX7_fold_105 : Dc cX7_fold 105 (.invokevirtual 85) 3 108 := ⟨DX7_fold_c3.2.2.2.2.2.2.2.2.2.2.2.2.2.2.1, rfl⟩
theorem dX7_fold_108 : Dc cX7_fold 108 (.iinc 4 1) 3 111 := ⟨DX7_fold_c3.2.2.2.2.2.2.2.2.2.2.2.2.2.2.2, rfl⟩
theorem DX7_fold_c4 : decode cX7_fold 111 = .ok (.goto (-33), 3) ∧ decode cX7_fold 114 = .ok (.iload_n 3, 1) ∧ decode cX7_fold 115 = .ok (.ireturn, 1) := by decide +kernel
theorem dX7_fold_111 : Db cX7_fold 111 .goto 114 78 := ⟨-33, DX7_fold_c4.1, rfl, rfl⟩
theorem dX7_fold_114 : Dc cX7_fold 114 (.iload_n 3) 1 115 := ⟨DX7_fold_c4.2.1, rfl⟩
theorem dX7_fold_115 : Dc cX7_fold 115 (.ireturn) 1 116 := ⟨DX7_fold_c4.2.2, rfl⟩
theorem DX7_setTurns_c0 : decode cX7_setTurns 0 = .ok (.aload_n 0, 1) ∧ decode cX7_setTurns 1 = .ok (.iload_n 1, 1) ∧ decode cX7_setTurns 2 = .ok (.invokevirtual 92, 3) ∧ decode cX7_setTurns 5 = .ok (.ifCond .ne 5, 3) ∧ decode cX7_setTurns 8 = .ok (.iconst (-1), 1) ∧ decode cX7_setTurns 9 = .ok (.ireturn, 1) ∧ decode cX7_setTurns 10 = .ok (.iload_n 2, 1) ∧ decode cX7_setTurns 11 = .ok (.iconst 1, 1) ∧ decode cX7_setTurns 12 = .ok (.bipush 99, 2) ∧ decode cX7_setTurns 14 = .ok (.invokestatic 37, 3) ∧ decode cX7_setTurns 17 = .ok (.ifCond .ne 6, 3) ∧ decode cX7_setTurns 20 = .ok (.bipush (-2), 2) ∧ decode cX7_setTurns 22 = .ok (.ireturn, 1) ∧ decode cX7_setTurns 23 = .ok (.aload_n 0, 1) ∧ decode cX7_setTurns 24 = .ok (.getfield 7, 3) ∧ decode cX7_setTurns 27 = .ok (.sipush 213, 3) := by decide +kernel
theorem dX7_setTurns_0 : Dc cX7_setTurns 0 (.aload_n 0) 1 1 := ⟨DX7_setTurns_c0.1, rfl⟩
theorem dX7_setTurns_1 : Dc cX7_setTurns 1 (.iload_n 1) 1 2 := ⟨DX7_setTurns_c0.2.1, rfl⟩
theorem dX7_setTurns_2 : Dc cX7_setTurns 2 (.invokevirtual 92) 3 5 := ⟨DX7_setTurns_c0.2.2.1, rfl⟩
theorem dX7_setTurns_5 : Db cX7_setTurns 5 (fun o => .ifCond .ne o) 8 10 := ⟨5, DX7_setTurns_c0.2.2.2.1, rfl, rfl⟩
theorem dX7_setTurns_8 : Dc cX7_setTurns 8 (.iconst (-1)) 1 9 := ⟨DX7_setTurns_c0.2.2.2.2.1, rfl⟩
theorem dX7_setTurns_9 : Dc cX7_setTurns 9 (.ireturn) 1 10 := ⟨DX7_setTurns_c0.2.2.2.2.2.1, rfl⟩
theorem dX7_setTurns_10 : Dc cX7_setTurns 10 (.iload_n 2) 1 11 := ⟨DX7_setTurns_c0.2.2.2.2.2.2.1, rfl⟩
theorem dX7_setTurns_11 : Dc cX7_setTurns 11 (.iconst 1) 1 12 := ⟨DX7_setTurns_c0.2.2.2.2.2.2.2.1, rfl⟩
theorem dX7_setTurns_12 : Dc cX7_setTurns 12 (.bipush 99) 2 14 := ⟨DX7_setTurns_c0.2.2.2.2.2.2.2.2.1, rfl⟩
theorem dX7_setTurns_14 : Dc cX7_setTurns 14 (.invokestatic 37) 3 17 := ⟨DX7_setTurns_c0.2.2.2.2.2.2.2.2.2.1, rfl⟩
theorem dX7_setTurns_17 : Db cX7_setTurns 17 (fun o => .ifCond .ne o) 20 23 := ⟨6, DX7_setTurns_c0.2.2.2.2.2.2.2.2.2.2.1, rfl, rfl⟩
theorem dX7_setTurns_20 : Dc cX7_setTurns 20 (.bipush (-2)) 2 22 := ⟨DX7_setTurns_c0.2.2.2.2.2.2.2.2.2.2.2.1, rfl⟩
theorem dX7_setTurns_22 : Dc cX7_setTurns 22 (.ireturn) 1 23 := ⟨DX7_setTurns_c0.2.2.2.2.2.2.2.2.2.2.2.2.1, rfl⟩
theorem dX7_setTurns_23 : Dc cX7_setTurns 23 (.aload_n 0) 1 24 := ⟨DX7_setTurns_c0.2.2.2.2.2.2.2.2.2.2.2.2.2.1, rfl⟩
theorem dX7_setTurns_24 : Dc cX7_setTurns 24 (.getfield 7) 3 27 := ⟨DX7_setTurns_c0.2.2.2.2.2.2.2.2.2.2.2.2.2.2.1, rfl⟩
theorem dX7_setTurns_27 : Dc cX7_setTurns 27 (.sipush 213) 3 30 := ⟨DX7_setTurns_c0.2.2.2.2.2.2.2.2.2.2.2.2.2.2.2, rfl⟩
theorem DX7_setTurns_c1 : decode cX7_setTurns 30 = .ok (.bipush 38, 2) ∧ decode cX7_setTurns 32 = .ok (.iload_n 1, 1) ∧ decode cX7_setTurns 33 = .ok (.imul, 1) ∧ decode cX7_setTurns 34 = .ok (.iadd, 1) ∧ decode cX7_setTurns 35 = .ok (.iconst 1, 1) ∧ decode cX7_setTurns 36 = .ok (.iadd, 1) ∧ decode cX7_setTurns 37 = .ok (.iaload, 1) ∧ decode cX7_setTurns 38 = .ok (.istore_n 3, 1) ∧ decode cX7_setTurns 39 = .ok (.iload_n 3, 1) ∧ decode cX7_setTurns 40 = .ok (.iload_n 2, 1) ∧ decode cX7_setTurns 41 = .ok (.if_icmp .ne 6, 3) ∧ decode cX7_setTurns 44 = .ok (.bipush (-5), 2) ∧ decode cX7_setTurns 46 = .ok (.ireturn, 1) ∧ decode cX7_setTurns 47 = .ok (.aload_n 0, 1) ∧ decode cX7_setTurns 48 = .ok (.invokevirtual 53, 3) ∧ decode cX7_setTurns 51 = .ok (.aload_n 0, 1) := by decide +kernel
theorem dX7_setTurns_30 : Dc cX7_setTurns 30 (.bipush 38) 2 32 := ⟨DX7_setTurns_c1.1, rfl⟩
theorem dX7_setTurns_32 : Dc cX7_setTurns 32 (.iload_n 1) 1 33 := ⟨DX7_setTurns_c1.2.1, rfl⟩
theorem dX7_setTurns_33 : Dc cX7_setTurns 33 (.imul) 1 34 := ⟨DX7_setTurns_c1.2.2.1, rfl⟩
theorem dX7_setTurns_34 : Dc cX7_setTurns 34 (.iadd) 1 35 := ⟨DX7_setTurns_c1.2.2.2.1, rfl⟩
theorem dX7_setTurns_35 : Dc cX7_setTurns 35 (.iconst 1) 1 36 := ⟨DX7_setTurns_c1.2.2.2.2.1, rfl⟩
theorem dX7_setTurns_36 : Dc cX7_setTurns 36 (.iadd) 1 37 := ⟨DX7_setTurns_c1.2.2.2.2.2.1, rfl⟩
theorem dX7_setTurns_37 : Dc cX7_setTurns 37 (.iaload) 1 38 := ⟨DX7_setTurns_c1.2.2.2.2.2.2.1, rfl⟩
theorem dX7_setTurns_38 : Dc cX7_setTurns 38 (.istore_n 3) 1 39 := ⟨DX7_setTurns_c1.2.2.2.2.2.2.2.1, rfl⟩
theorem dX7_setTurns_39 : Dc cX7_setTurns 39 (.iload_n 3) 1 40 := ⟨DX7_setTurns_c1.2.2.2.2.2.2.2.2.1, rfl⟩
theorem dX7_setTurns_40 : Dc cX7_setTurns 40 (.iload_n 2) 1 41 := ⟨DX7_setTurns_c1.2.2.2.2.2.2.2.2.2.1, rfl⟩
theorem dX7_setTurns_41 : Db cX7_setTurns 41 (fun o => .if_icmp .ne o) 44 47 := ⟨6, DX7_setTurns_c1.2.2.2.2.2.2.2.2.2.2.1, rfl, rfl⟩
theorem dX7_setTurns_44 : Dc cX7_setTurns 44 (.bipush (-5)) 2 46 := ⟨DX7_setTurns_c1.2.2.2.2.2.2.2.2.2.2.2.1, rfl⟩
theorem dX7_setTurns_46 : Dc cX7_setTurns 46 (.ireturn) 1 47 := ⟨DX7_setTurns_c1.2.2.2.2.2.2.2.2.2.2.2.2.1, rfl⟩
theorem dX7_setTurns_47 : Dc cX7_setTurns 47 (.aload_n 0) 1 48 := ⟨DX7_setTurns_c1.2.2.2.2.2.2.2.2.2.2.2.2.2.1, rfl⟩
theorem dX7_setTurns_48 : Dc cX7_setTurns 48 (.invokevirtual 53) 3 51 := ⟨DX7_setTurns_c1.2.2.2.2.2.2.2.2.2.2.2.2.2.2.1, rfl⟩
theorem dX7_setTurns_51 : Dc cX7_setTurns 51 (.aload_n 0) 1 52 := ⟨DX7_setTurns_c1.2.2.2.2.2.2.2.2.2.2.2.2.2.2.2, rfl⟩
theorem DX7_setTurns_c2 : decode cX7_setTurns 52 = .ok (.getfield 7, 3) ∧ decode cX7_setTurns 55 = .ok (.sipush 213, 3) ∧ decode cX7_setTurns 58 = .ok (.bipush 38, 2) ∧ decode cX7_setTurns 60 = .ok (.iload_n 1, 1) ∧ decode cX7_setTurns 61 = .ok (.imul, 1) ∧ decode cX7_setTurns 62 = .ok (.iadd, 1) ∧ decode cX7_setTurns 63 = .ok (.iconst 1, 1) ∧ decode cX7_setTurns 64 = .ok (.iadd, 1) ∧ decode cX7_setTurns 65 = .ok (.iload_n 2, 1) ∧ decode cX7_setTurns 66 = .ok (.iastore, 1) ∧ decode cX7_setTurns 67 = .ok (.iload_n 3, 1) ∧ decode cX7_setTurns 68 = .ok (.ireturn, 1) := by decide +kernel
theorem dX7_setTurns_52 : Dc cX7_setTurns 52 (.getfield 7) 3 55 := ⟨DX7_setTurns_c2.1, rfl⟩
theorem dX7_setTurns_55 : Dc cX7_setTurns 55 (.sipush 213) 3 58 := ⟨DX7_setTurns_c2.2.1, rfl⟩
theorem dX7_setTurns_58 : Dc cX7_setTurns 58 (.bipush 38) 2 60 := ⟨DX7_setTurns_c2.2.2.1, rfl⟩
theorem dX7_setTurns_60 : Dc cX7_setTurns 60 (.iload_n 1) 1 61 := ⟨DX7_setTurns_c2.2.2.2.1, rfl⟩
theorem dX7_setTurns_61 : Dc cX7_setTurns 61 (.imul) 1 62 := ⟨DX7_setTurns_c2.2.2.2.2.1, rfl⟩
theorem dX7_setTurns_62 : Dc cX7_setTurns 62 (.iadd) 1 63 := ⟨DX7_setTurns_c2.2.2.2.2.2.1, rfl⟩
theorem dX7_setTurns_63 : Dc cX7_setTurns 63 (.iconst 1) 1 64 := ⟨DX7_setTurns_c2.2.2.2.2.2.2.1, rfl⟩
theorem dX7_setTurns_64 : Dc cX7_setTurns 64 (.iadd) 1 65 := ⟨DX7_setTurns_c2.2.2.2.2.2.2.2.1, rfl⟩
theorem dX7_setTurns_65 : Dc cX7_setTurns 65 (.iload_n 2) 1 66 := ⟨DX7_setTurns_c2.2.2.2.2.2.2.2.2.1, rfl⟩
theorem dX7_setTurns_66 : Dc cX7_setTurns 66 (.iastore) 1 67 := ⟨DX7_setTurns_c2.2.2.2.2.2.2.2.2.2.1, rfl⟩
theorem dX7_setTurns_67 : Dc cX7_setTurns 67 (.iload_n 3) 1 68 := ⟨DX7_setTurns_c2.2.2.2.2.2.2.2.2.2.2.1, rfl⟩
theorem dX7_setTurns_68 : Dc cX7_setTurns 68 (.ireturn) 1 69 := ⟨DX7_setTurns_c2.2.2.2.2.2.2.2.2.2.2.2, rfl⟩
theorem DX7_dropLoop_c0 : decode cX7_dropLoop 0 = .ok (.aload_n 0, 1) ∧ decode cX7_dropLoop 1 = .ok (.iload_n 1, 1) ∧ decode cX7_dropLoop 2 = .ok (.invokevirtual 92, 3) ∧ decode cX7_dropLoop 5 = .ok (.ifCond .ne 5, 3) ∧ decode cX7_dropLoop 8 = .ok (.iconst (-1), 1) ∧ decode cX7_dropLoop 9 = .ok (.ireturn, 1) ∧ decode cX7_dropLoop 10 = .ok (.aload_n 0, 1) ∧ decode cX7_dropLoop 11 = .ok (.invokevirtual 53, 3) ∧ decode cX7_dropLoop 14 = .ok (.aload_n 0, 1) ∧ decode cX7_dropLoop 15 = .ok (.getfield 7, 3) ∧ decode cX7_dropLoop 18 = .ok (.bipush 33, 2) ∧ decode cX7_dropLoop 20 = .ok (.dup2, 1) ∧ decode cX7_dropLoop 21 = .ok (.iaload, 1) ∧ decode cX7_dropLoop 22 = .ok (.iconst 1, 1) ∧ decode cX7_dropLoop 23 = .ok (.isub, 1) ∧ decode cX7_dropLoop 24 = .ok (.iastore, 1) := by decide +kernel
theorem dX7_dropLoop_0 : Dc cX7_dropLoop 0 (.aload_n 0) 1 1 := ⟨DX7_dropLoop_c0.1, rfl⟩
theorem dX7_dropLoop_1 : Dc cX7_dropLoop 1 (.iload_n 1) 1 2 := ⟨DX7_dropLoop_c0.2.1, rfl⟩
theorem dX7_dropLoop_2 : Dc cX7_dropLoop 2 (.invokevirtual 92) 3 5 := ⟨DX7_dropLoop_c0.2.2.1, rfl⟩
theorem dX7_dropLoop_5 : Db cX7_dropLoop 5 (fun o => .ifCond .ne o) 8 10 := ⟨5, DX7_dropLoop_c0.2.2.2.1, rfl, rfl⟩
theorem dX7_dropLoop_8 : Dc cX7_dropLoop 8 (.iconst (-1)) 1 9 := ⟨DX7_dropLoop_c0.2.2.2.2.1, rfl⟩
theorem dX7_dropLoop_9 : Dc cX7_dropLoop 9 (.ireturn) 1 10 := ⟨DX7_dropLoop_c0.2.2.2.2.2.1, rfl⟩
theorem dX7_dropLoop_10 : Dc cX7_dropLoop 10 (.aload_n 0) 1 11 := ⟨DX7_dropLoop_c0.2.2.2.2.2.2.1, rfl⟩
theorem dX7_dropLoop_11 : Dc cX7_dropLoop 11 (.invokevirtual 53) 3 14 := ⟨DX7_dropLoop_c0.2.2.2.2.2.2.2.1, rfl⟩
theorem dX7_dropLoop_14 : Dc cX7_dropLoop 14 (.aload_n 0) 1 15 := ⟨DX7_dropLoop_c0.2.2.2.2.2.2.2.2.1, rfl⟩
theorem dX7_dropLoop_15 : Dc cX7_dropLoop 15 (.getfield 7) 3 18 := ⟨DX7_dropLoop_c0.2.2.2.2.2.2.2.2.2.1, rfl⟩
theorem dX7_dropLoop_18 : Dc cX7_dropLoop 18 (.bipush 33) 2 20 := ⟨DX7_dropLoop_c0.2.2.2.2.2.2.2.2.2.2.1, rfl⟩
theorem dX7_dropLoop_20 : Dc cX7_dropLoop 20 (.dup2) 1 21 := ⟨DX7_dropLoop_c0.2.2.2.2.2.2.2.2.2.2.2.1, rfl⟩
theorem dX7_dropLoop_21 : Dc cX7_dropLoop 21 (.iaload) 1 22 := ⟨DX7_dropLoop_c0.2.2.2.2.2.2.2.2.2.2.2.2.1, rfl⟩
theorem dX7_dropLoop_22 : Dc cX7_dropLoop 22 (.iconst 1) 1 23 := ⟨DX7_dropLoop_c0.2.2.2.2.2.2.2.2.2.2.2.2.2.1, rfl⟩
theorem dX7_dropLoop_23 : Dc cX7_dropLoop 23 (.isub) 1 24 := ⟨DX7_dropLoop_c0.2.2.2.2.2.2.2.2.2.2.2.2.2.2.1, rfl⟩
theorem dX7_dropLoop_24 : Dc cX7_dropLoop 24 (.iastore) 1 25 := ⟨DX7_dropLoop_c0.2.2.2.2.2.2.2.2.2.2.2.2.2.2.2, rfl⟩
theorem DX7_dropLoop_c1 : decode cX7_dropLoop 25 = .ok (.sipush 213, 3) ∧ decode cX7_dropLoop 28 = .ok (.bipush 38, 2) ∧ decode cX7_dropLoop 30 = .ok (.iload_n 1, 1) ∧ decode cX7_dropLoop 31 = .ok (.imul, 1) ∧ decode cX7_dropLoop 32 = .ok (.iadd, 1) ∧ decode cX7_dropLoop 33 = .ok (.istore_n 2, 1) ∧ decode cX7_dropLoop 34 = .ok (.iload_n 2, 1) ∧ decode cX7_dropLoop 35 = .ok (.sipush 403, 3) ∧ decode cX7_dropLoop 38 = .ok (.if_icmp .ge 24, 3) ∧ decode cX7_dropLoop 41 = .ok (.aload_n 0, 1) ∧ decode cX7_dropLoop 42 = .ok (.getfield 7, 3) ∧ decode cX7_dropLoop 45 = .ok (.iload_n 2, 1) ∧ decode cX7_dropLoop 46 = .ok (.aload_n 0, 1) ∧ decode cX7_dropLoop 47 = .ok (.getfield 7, 3) ∧ decode cX7_dropLoop 50 = .ok (.iload_n 2, 1) ∧ decode cX7_dropLoop 51 = .ok (.bipush 38, 2) := by decide +kernel
theorem dX7_dropLoop_25 : Dc cX7_dropLoop 25 (.sipush 213) 3 28 := ⟨DX7_dropLoop_c1.1, rfl⟩
theorem dX7_dropLoop_28 : Dc cX7_dropLoop 28 (.bipush 38) 2 30 := ⟨DX7_dropLoop_c1.2.1, rfl⟩
theorem dX7_dropLoop_30 : Dc cX7_dropLoop 30 (.iload_n 1) 1 31 := ⟨DX7_dropLoop_c1.2.2.1, rfl⟩
theorem dX7_dropLoop_31 : Dc cX7_dropLoop 31 (.imul) 1 32 := ⟨DX7_dropLoop_c1.2.2.2.1, rfl⟩
theorem dX7_dropLoop_32 : Dc cX7_dropLoop 32 (.iadd) 1 33 := ⟨DX7_dropLoop_c1.2.2.2.2.1, rfl⟩
theorem dX7_dropLoop_33 : Dc cX7_dropLoop 33 (.istore_n 2) 1 34 := ⟨DX7_dropLoop_c1.2.2.2.2.2.1, rfl⟩
theorem dX7_dropLoop_34 : Dc cX7_dropLoop 34 (.iload_n 2) 1 35 := ⟨DX7_dropLoop_c1.2.2.2.2.2.2.1, rfl⟩
theorem dX7_dropLoop_35 : Dc cX7_dropLoop 35 (.sipush 403) 3 38 := ⟨DX7_dropLoop_c1.2.2.2.2.2.2.2.1, rfl⟩
theorem dX7_dropLoop_38 : Db cX7_dropLoop 38 (fun o => .if_icmp .ge o) 41 62 := ⟨24, DX7_dropLoop_c1.2.2.2.2.2.2.2.2.1, rfl, rfl⟩
theorem dX7_dropLoop_41 : Dc cX7_dropLoop 41 (.aload_n 0) 1 42 := ⟨DX7_dropLoop_c1.2.2.2.2.2.2.2.2.2.1, rfl⟩
theorem dX7_dropLoop_42 : Dc cX7_dropLoop 42 (.getfield 7) 3 45 := ⟨DX7_dropLoop_c1.2.2.2.2.2.2.2.2.2.2.1, rfl⟩
theorem dX7_dropLoop_45 : Dc cX7_dropLoop 45 (.iload_n 2) 1 46 := ⟨DX7_dropLoop_c1.2.2.2.2.2.2.2.2.2.2.2.1, rfl⟩
theorem dX7_dropLoop_46 : Dc cX7_dropLoop 46 (.aload_n 0) 1 47 := ⟨DX7_dropLoop_c1.2.2.2.2.2.2.2.2.2.2.2.2.1, rfl⟩
theorem dX7_dropLoop_47 : Dc cX7_dropLoop 47 (.getfield 7) 3 50 := ⟨DX7_dropLoop_c1.2.2.2.2.2.2.2.2.2.2.2.2.2.1, rfl⟩
theorem dX7_dropLoop_50 : Dc cX7_dropLoop 50 (.iload_n 2) 1 51 := ⟨DX7_dropLoop_c1.2.2.2.2.2.2.2.2.2.2.2.2.2.2.1, rfl⟩
theorem dX7_dropLoop_51 : Dc cX7_dropLoop 51 (.bipush 38) 2 53 := ⟨DX7_dropLoop_c1.2.2.2.2.2.2.2.2.2.2.2.2.2.2.2, rfl⟩
theorem DX7_dropLoop_c2 : decode cX7_dropLoop 53 = .ok (.iadd, 1) ∧ decode cX7_dropLoop 54 = .ok (.iaload, 1) ∧ decode cX7_dropLoop 55 = .ok (.iastore, 1) ∧ decode cX7_dropLoop 56 = .ok (.iinc 2 1, 3) ∧ decode cX7_dropLoop 59 = .ok (.goto (-25), 3) ∧ decode cX7_dropLoop 62 = .ok (.aload_n 0, 1) ∧ decode cX7_dropLoop 63 = .ok (.getfield 7, 3) ∧ decode cX7_dropLoop 66 = .ok (.bipush 33, 2) ∧ decode cX7_dropLoop 68 = .ok (.iaload, 1) ∧ decode cX7_dropLoop 69 = .ok (.ireturn, 1) := by decide +kernel
theorem dX7_dropLoop_53 : Dc cX7_dropLoop 53 (.iadd) 1 54 := ⟨DX7_dropLoop_c2.1, rfl⟩
theorem dX7_dropLoop_54 : Dc cX7_dropLoop 54 (.iaload) 1 55 := ⟨DX7_dropLoop_c2.2.1, rfl⟩
theorem dX7_dropLoop_55 : Dc cX7_dropLoop 55 (.iastore) 1 56 := ⟨DX7_dropLoop_c2.2.2.1, rfl⟩
theorem dX7_dropLoop_56 : Dc cX7_dropLoop 56 (.iinc 2 1) 3 59 := ⟨DX7_dropLoop_c2.2.2.2.1, rfl⟩
theorem dX7_dropLoop_59 : Db cX7_dropLoop 59 .goto 62 34 := ⟨-25, DX7_dropLoop_c2.2.2.2.2.1, rfl, rfl⟩
theorem dX7_dropLoop_62 : Dc cX7_dropLoop 62 (.aload_n 0) 1 63 := ⟨DX7_dropLoop_c2.2.2.2.2.2.1, rfl⟩
theorem dX7_dropLoop_63 : Dc cX7_dropLoop 63 (.getfield 7) 3 66 := ⟨DX7_dropLoop_c2.2.2.2.2.2.2.1, rfl⟩
theorem dX7_dropLoop_66 : Dc cX7_dropLoop 66 (.bipush 33) 2 68 := ⟨DX7_dropLoop_c2.2.2.2.2.2.2.2.1, rfl⟩
theorem dX7_dropLoop_68 : Dc cX7_dropLoop 68 (.iaload) 1 69 := ⟨DX7_dropLoop_c2.2.2.2.2.2.2.2.2.1, rfl⟩
theorem dX7_dropLoop_69 : Dc cX7_dropLoop 69 (.ireturn) 1 70 := ⟨DX7_dropLoop_c2.2.2.2.2.2.2.2.2.2, rfl⟩
theorem DX7_takeBody_c0 : decode cX7_takeBody 0 = .ok (.sipush 213, 3) ∧ decode cX7_takeBody 3 = .ok (.bipush 38, 2) ∧ decode cX7_takeBody 5 = .ok (.iload_n 1, 1) ∧ decode cX7_takeBody 6 = .ok (.imul, 1) ∧ decode cX7_takeBody 7 = .ok (.iadd, 1) ∧ decode cX7_takeBody 8 = .ok (.istore_n 2, 1) ∧ decode cX7_takeBody 9 = .ok (.aload_n 0, 1) ∧ decode cX7_takeBody 10 = .ok (.aload_n 0, 1) ∧ decode cX7_takeBody 11 = .ok (.getfield 7, 3) ∧ decode cX7_takeBody 14 = .ok (.iload_n 2, 1) ∧ decode cX7_takeBody 15 = .ok (.iaload, 1) ∧ decode cX7_takeBody 16 = .ok (.putfield 95, 3) ∧ decode cX7_takeBody 19 = .ok (.iconst 0, 1) ∧ decode cX7_takeBody 20 = .ok (.istore_n 3, 1) ∧ decode cX7_takeBody 21 = .ok (.iload_n 3, 1) ∧ decode cX7_takeBody 22 = .ok (.aload_n 0, 1) := by decide +kernel
theorem dX7_takeBody_0 : Dc cX7_takeBody 0 (.sipush 213) 3 3 := ⟨DX7_takeBody_c0.1, rfl⟩
theorem dX7_takeBody_3 : Dc cX7_takeBody 3 (.bipush 38) 2 5 := ⟨DX7_takeBody_c0.2.1, rfl⟩
theorem dX7_takeBody_5 : Dc cX7_takeBody 5 (.iload_n 1) 1 6 := ⟨DX7_takeBody_c0.2.2.1, rfl⟩
theorem dX7_takeBody_6 : Dc cX7_takeBody 6 (.imul) 1 7 := ⟨DX7_takeBody_c0.2.2.2.1, rfl⟩
theorem dX7_takeBody_7 : Dc cX7_takeBody 7 (.iadd) 1 8 := ⟨DX7_takeBody_c0.2.2.2.2.1, rfl⟩
theorem dX7_takeBody_8 : Dc cX7_takeBody 8 (.istore_n 2) 1 9 := ⟨DX7_takeBody_c0.2.2.2.2.2.1, rfl⟩
theorem dX7_takeBody_9 : Dc cX7_takeBody 9 (.aload_n 0) 1 10 := ⟨DX7_takeBody_c0.2.2.2.2.2.2.1, rfl⟩
theorem dX7_takeBody_10 : Dc cX7_takeBody 10 (.aload_n 0) 1 11 := ⟨DX7_takeBody_c0.2.2.2.2.2.2.2.1, rfl⟩
theorem dX7_takeBody_11 : Dc cX7_takeBody 11 (.getfield 7) 3 14 := ⟨DX7_takeBody_c0.2.2.2.2.2.2.2.2.1, rfl⟩
theorem dX7_takeBody_14 : Dc cX7_takeBody 14 (.iload_n 2) 1 15 := ⟨DX7_takeBody_c0.2.2.2.2.2.2.2.2.2.1, rfl⟩
theorem dX7_takeBody_15 : Dc cX7_takeBody 15 (.iaload) 1 16 := ⟨DX7_takeBody_c0.2.2.2.2.2.2.2.2.2.2.1, rfl⟩
theorem dX7_takeBody_16 : Dc cX7_takeBody 16 (.putfield 95) 3 19 := ⟨DX7_takeBody_c0.2.2.2.2.2.2.2.2.2.2.2.1, rfl⟩
theorem dX7_takeBody_19 : Dc cX7_takeBody 19 (.iconst 0) 1 20 := ⟨DX7_takeBody_c0.2.2.2.2.2.2.2.2.2.2.2.2.1, rfl⟩
theorem dX7_takeBody_20 : Dc cX7_takeBody 20 (.istore_n 3) 1 21 := ⟨DX7_takeBody_c0.2.2.2.2.2.2.2.2.2.2.2.2.2.1, rfl⟩
theorem dX7_takeBody_21 : Dc cX7_takeBody 21 (.iload_n 3) 1 22 := ⟨DX7_takeBody_c0.2.2.2.2.2.2.2.2.2.2.2.2.2.2.1, rfl⟩
theorem dX7_takeBody_22 : Dc cX7_takeBody 22 (.aload_n 0) 1 23 := ⟨DX7_takeBody_c0.2.2.2.2.2.2.2.2.2.2.2.2.2.2.2, rfl⟩
theorem DX7_takeBody_c1 : decode cX7_takeBody 23 = .ok (.getfield 95, 3) ∧ decode cX7_takeBody 26 = .ok (.if_icmp .ge 63, 3) ∧ decode cX7_takeBody 29 = .ok (.aload_n 0, 1) ∧ decode cX7_takeBody 30 = .ok (.getfield 25, 3) ∧ decode cX7_takeBody 33 = .ok (.iload_n 3, 1) ∧ decode cX7_takeBody 34 = .ok (.aload_n 0, 1) ∧ decode cX7_takeBody 35 = .ok (.getfield 7, 3) ∧ decode cX7_takeBody 38 = .ok (.iload_n 2, 1) ∧ decode cX7_takeBody 39 = .ok (.iconst 2, 1) ∧ decode cX7_takeBody 40 = .ok (.iadd, 1) ∧ decode cX7_takeBody 41 = .ok (.iconst 3, 1) ∧ decode cX7_takeBody 42 = .ok (.iload_n 3, 1) ∧ decode cX7_takeBody 43 = .ok (.imul, 1) ∧ decode cX7_takeBody 44 = .ok (.iadd, 1) ∧ decode cX7_takeBody 45 = .ok (.iaload, 1) ∧ decode cX7_takeBody 46 = .ok (.iastore, 1) := by decide +kernel
theorem dX7_takeBody_23 : Dc cX7_takeBody 23 (.getfield 95) 3 26 := ⟨DX7_takeBody_c1.1, rfl⟩
theorem dX7_takeBody_26 : Db cX7_takeBody 26 (fun o => .if_icmp .ge o) 29 89 := ⟨63, DX7_takeBody_c1.2.1, rfl, rfl⟩
theorem dX7_takeBody_29 : Dc cX7_takeBody 29 (.aload_n 0) 1 30 := ⟨DX7_takeBody_c1.2.2.1, rfl⟩
theorem dX7_takeBody_30 : Dc cX7_takeBody 30 (.getfield 25) 3 33 := ⟨DX7_takeBody_c1.2.2.2.1, rfl⟩
theorem dX7_takeBody_33 : Dc cX7_takeBody 33 (.iload_n 3) 1 34 := ⟨DX7_takeBody_c1.2.2.2.2.1, rfl⟩
theorem dX7_takeBody_34 : Dc cX7_takeBody 34 (.aload_n 0) 1 35 := ⟨DX7_takeBody_c1.2.2.2.2.2.1, rfl⟩
theorem dX7_takeBody_35 : Dc cX7_takeBody 35 (.getfield 7) 3 38 := ⟨DX7_takeBody_c1.2.2.2.2.2.2.1, rfl⟩
theorem dX7_takeBody_38 : Dc cX7_takeBody 38 (.iload_n 2) 1 39 := ⟨DX7_takeBody_c1.2.2.2.2.2.2.2.1, rfl⟩
theorem dX7_takeBody_39 : Dc cX7_takeBody 39 (.iconst 2) 1 40 := ⟨DX7_takeBody_c1.2.2.2.2.2.2.2.2.1, rfl⟩
theorem dX7_takeBody_40 : Dc cX7_takeBody 40 (.iadd) 1 41 := ⟨DX7_takeBody_c1.2.2.2.2.2.2.2.2.2.1, rfl⟩
theorem dX7_takeBody_41 : Dc cX7_takeBody 41 (.iconst 3) 1 42 := ⟨DX7_takeBody_c1.2.2.2.2.2.2.2.2.2.2.1, rfl⟩
theorem dX7_takeBody_42 : Dc cX7_takeBody 42 (.iload_n 3) 1 43 := ⟨DX7_takeBody_c1.2.2.2.2.2.2.2.2.2.2.2.1, rfl⟩
theorem dX7_takeBody_43 : Dc cX7_takeBody 43 (.imul) 1 44 := ⟨DX7_takeBody_c1.2.2.2.2.2.2.2.2.2.2.2.2.1, rfl⟩
theorem dX7_takeBody_44 : Dc cX7_takeBody 44 (.iadd) 1 45 := ⟨DX7_takeBody_c1.2.2.2.2.2.2.2.2.2.2.2.2.2.1, rfl⟩
theorem dX7_takeBody_45 : Dc cX7_takeBody 45 (.iaload) 1 46 := ⟨DX7_takeBody_c1.2.2.2.2.2.2.2.2.2.2.2.2.2.2.1, rfl⟩
theorem dX7_takeBody_46 : Dc cX7_takeBody 46 (.iastore) 1 47 := ⟨DX7_takeBody_c1.2.2.2.2.2.2.2.2.2.2.2.2.2.2.2, rfl⟩
theorem DX7_takeBody_c2 : decode cX7_takeBody 47 = .ok (.aload_n 0, 1) ∧ decode cX7_takeBody 48 = .ok (.getfield 28, 3) ∧ decode cX7_takeBody 51 = .ok (.iload_n 3, 1) ∧ decode cX7_takeBody 52 = .ok (.aload_n 0, 1) ∧ decode cX7_takeBody 53 = .ok (.getfield 7, 3) ∧ decode cX7_takeBody 56 = .ok (.iload_n 2, 1) ∧ decode cX7_takeBody 57 = .ok (.iconst 3, 1) ∧ decode cX7_takeBody 58 = .ok (.iadd, 1) ∧ decode cX7_takeBody 59 = .ok (.iconst 3, 1) ∧ decode cX7_takeBody 60 = .ok (.iload_n 3, 1) ∧ decode cX7_takeBody 61 = .ok (.imul, 1) ∧ decode cX7_takeBody 62 = .ok (.iadd, 1) ∧ decode cX7_takeBody 63 = .ok (.iaload, 1) ∧ decode cX7_takeBody 64 = .ok (.iastore, 1) ∧ decode cX7_takeBody 65 = .ok (.aload_n 0, 1) ∧ decode cX7_takeBody 66 = .ok (.getfield 31, 3) := by decide +kernel
theorem dX7_takeBody_47 : Dc cX7_takeBody 47 (.aload_n 0) 1 48 := ⟨DX7_takeBody_c2.1, rfl⟩
theorem dX7_takeBody_48 : Dc cX7_takeBody 48 (.getfield 28) 3 51 := ⟨DX7_takeBody_c2.2.1, rfl⟩
theorem dX7_takeBody_51 : Dc cX7_takeBody 51 (.iload_n 3) 1 52 := ⟨DX7_takeBody_c2.2.2.1, rfl⟩
theorem dX7_takeBody_52 : Dc cX7_takeBody 52 (.aload_n 0) 1 53 := ⟨DX7_takeBody_c2.2.2.2.1, rfl⟩
theorem dX7_takeBody_53 : Dc cX7_takeBody 53 (.getfield 7) 3 56 := ⟨DX7_takeBody_c2.2.2.2.2.1, rfl⟩
theorem dX7_takeBody_56 : Dc cX7_takeBody 56 (.iload_n 2) 1 57 := ⟨DX7_takeBody_c2.2.2.2.2.2.1, rfl⟩
theorem dX7_takeBody_57 : Dc cX7_takeBody 57 (.iconst 3) 1 58 := ⟨DX7_takeBody_c2.2.2.2.2.2.2.1, rfl⟩
theorem dX7_takeBody_58 : Dc cX7_takeBody 58 (.iadd) 1 59 := ⟨DX7_takeBody_c2.2.2.2.2.2.2.2.1, rfl⟩
theorem dX7_takeBody_59 : Dc cX7_takeBody 59 (.iconst 3) 1 60 := ⟨DX7_takeBody_c2.2.2.2.2.2.2.2.2.1, rfl⟩
theorem dX7_takeBody_60 : Dc cX7_takeBody 60 (.iload_n 3) 1 61 := ⟨DX7_takeBody_c2.2.2.2.2.2.2.2.2.2.1, rfl⟩
theorem dX7_takeBody_61 : Dc cX7_takeBody 61 (.imul) 1 62 := ⟨DX7_takeBody_c2.2.2.2.2.2.2.2.2.2.2.1, rfl⟩
theorem dX7_takeBody_62 : Dc cX7_takeBody 62 (.iadd) 1 63 := ⟨DX7_takeBody_c2.2.2.2.2.2.2.2.2.2.2.2.1, rfl⟩
theorem dX7_takeBody_63 : Dc cX7_takeBody 63 (.iaload) 1 64 := ⟨DX7_takeBody_c2.2.2.2.2.2.2.2.2.2.2.2.2.1, rfl⟩
theorem dX7_takeBody_64 : Dc cX7_takeBody 64 (.iastore) 1 65 := ⟨DX7_takeBody_c2.2.2.2.2.2.2.2.2.2.2.2.2.2.1, rfl⟩
theorem dX7_takeBody_65 : Dc cX7_takeBody 65 (.aload_n 0) 1 66 := ⟨DX7_takeBody_c2.2.2.2.2.2.2.2.2.2.2.2.2.2.2.1, rfl⟩
theorem dX7_takeBody_66 : Dc cX7_takeBody 66 (.getfield 31) 3 69 := ⟨DX7_takeBody_c2.2.2.2.2.2.2.2.2.2.2.2.2.2.2.2, rfl⟩
theorem DX7_takeBody_c3 : decode cX7_takeBody 69 = .ok (.iload_n 3, 1) ∧ decode cX7_takeBody 70 = .ok (.aload_n 0, 1) ∧ decode cX7_takeBody 71 = .ok (.getfield 7, 3) ∧ decode cX7_takeBody 74 = .ok (.iload_n 2, 1) ∧ decode cX7_takeBody 75 = .ok (.iconst 4, 1) ∧ decode cX7_takeBody 76 = .ok (.iadd, 1) ∧ decode cX7_takeBody 77 = .ok (.iconst 3, 1) ∧ decode cX7_takeBody 78 = .ok (.iload_n 3, 1) ∧ decode cX7_takeBody 79 = .ok (.imul, 1) ∧ decode cX7_takeBody 80 = .ok (.iadd, 1) ∧ decode cX7_takeBody 81 = .ok (.iaload, 1) ∧ decode cX7_takeBody 82 = .ok (.iastore, 1) ∧ decode cX7_takeBody 83 = .ok (.iinc 3 1, 3) ∧ decode cX7_takeBody 86 = .ok (.goto (-65), 3) ∧ decode cX7_takeBody 89 = .ok (.return_, 1) := by decide +kernel
theorem dX7_takeBody_69 : Dc cX7_takeBody 69 (.iload_n 3) 1 70 := ⟨DX7_takeBody_c3.1, rfl⟩
theorem dX7_takeBody_70 : Dc cX7_takeBody 70 (.aload_n 0) 1 71 := ⟨DX7_takeBody_c3.2.1, rfl⟩
theorem dX7_takeBody_71 : Dc cX7_takeBody 71 (.getfield 7) 3 74 := ⟨DX7_takeBody_c3.2.2.1, rfl⟩
theorem dX7_takeBody_74 : Dc cX7_takeBody 74 (.iload_n 2) 1 75 := ⟨DX7_takeBody_c3.2.2.2.1, rfl⟩
theorem dX7_takeBody_75 : Dc cX7_takeBody 75 (.iconst 4) 1 76 := ⟨DX7_takeBody_c3.2.2.2.2.1, rfl⟩
theorem dX7_takeBody_76 : Dc cX7_takeBody 76 (.iadd) 1 77 := ⟨DX7_takeBody_c3.2.2.2.2.2.1, rfl⟩
theorem dX7_takeBody_77 : Dc cX7_takeBody 77 (.iconst 3) 1 78 := ⟨DX7_takeBody_c3.2.2.2.2.2.2.1, rfl⟩
theorem dX7_takeBody_78 : Dc cX7_takeBody 78 (.iload_n 3) 1 79 := ⟨DX7_takeBody_c3.2.2.2.2.2.2.2.1, rfl⟩
theorem dX7_takeBody_79 : Dc cX7_takeBody 79 (.imul) 1 80 := ⟨DX7_takeBody_c3.2.2.2.2.2.2.2.2.1, rfl⟩
theorem dX7_takeBody_80 : Dc cX7_takeBody 80 (.iadd) 1 81 := ⟨DX7_takeBody_c3.2.2.2.2.2.2.2.2.2.1, rfl⟩
theorem dX7_takeBody_81 : Dc cX7_takeBody 81 (.iaload) 1 82 := ⟨DX7_takeBody_c3.2.2.2.2.2.2.2.2.2.2.1, rfl⟩
theorem dX7_takeBody_82 : Dc cX7_takeBody 82 (.iastore) 1 83 := ⟨DX7_takeBody_c3.2.2.2.2.2.2.2.2.2.2.2.1, rfl⟩
theorem dX7_takeBody_83 : Dc cX7_takeBody 83 (.iinc 3 1) 3 86 := ⟨DX7_takeBody_c3.2.2.2.2.2.2.2.2.2.2.2.2.1, rfl⟩
theorem dX7_takeBody_86 : Db cX7_takeBody 86 .goto 89 21 := ⟨-65, DX7_takeBody_c3.2.2.2.2.2.2.2.2.2.2.2.2.2.1, rfl, rfl⟩
theorem dX7_takeBody_89 : Dc cX7_takeBody 89 (.return_) 1 90 := ⟨DX7_takeBody_c3.2.2.2.2.2.2.2.2.2.2.2.2.2.2, rfl⟩
theorem DX7_turn_c0 : decode cX7_turn 0 = .ok (.iconst 0, 1) ∧ decode cX7_turn 1 = .ok (.istore_n 2, 1) ∧ decode cX7_turn 2 = .ok (.iconst 0, 1) ∧ decode cX7_turn 3 = .ok (.istore_n 3, 1) ∧ decode cX7_turn 4 = .ok (.iload_n 3, 1) ∧ decode cX7_turn 5 = .ok (.aload_n 0, 1) ∧ decode cX7_turn 6 = .ok (.getfield 95, 3) ∧ decode cX7_turn 9 = .ok (.if_icmp .ge 73, 3) ∧ decode cX7_turn 12 = .ok (.iload_n 2, 1) ∧ decode cX7_turn 13 = .ok (.ifCond .ne 69, 3) ∧ decode cX7_turn 16 = .ok (.aload_n 0, 1) ∧ decode cX7_turn 17 = .ok (.getfield 28, 3) ∧ decode cX7_turn 20 = .ok (.iload_n 3, 1) ∧ decode cX7_turn 21 = .ok (.iaload, 1) ∧ decode cX7_turn 22 = .ok (.iload_n 1, 1) ∧ decode cX7_turn 23 = .ok (.aload_n 0, 1) := by decide +kernel
theorem dX7_turn_0 : Dc cX7_turn 0 (.iconst 0) 1 1 := ⟨DX7_turn_c0.1, rfl⟩
theorem dX7_turn_1 : Dc cX7_turn 1 (.istore_n 2) 1 2 := ⟨DX7_turn_c0.2.1, rfl⟩
theorem dX7_turn_2 : Dc cX7_turn 2 (.iconst 0) 1 3 := ⟨DX7_turn_c0.2.2.1, rfl⟩
theorem dX7_turn_3 : Dc cX7_turn 3 (.istore_n 3) 1 4 := ⟨DX7_turn_c0.2.2.2.1, rfl⟩
theorem dX7_turn_4 : Dc cX7_turn 4 (.iload_n 3) 1 5 := ⟨DX7_turn_c0.2.2.2.2.1, rfl⟩
theorem dX7_turn_5 : Dc cX7_turn 5 (.aload_n 0) 1 6 := ⟨DX7_turn_c0.2.2.2.2.2.1, rfl⟩
theorem dX7_turn_6 : Dc cX7_turn 6 (.getfield 95) 3 9 := ⟨DX7_turn_c0.2.2.2.2.2.2.1, rfl⟩
theorem dX7_turn_9 : Db cX7_turn 9 (fun o => .if_icmp .ge o) 12 82 := ⟨73, DX7_turn_c0.2.2.2.2.2.2.2.1, rfl, rfl⟩
theorem dX7_turn_12 : Dc cX7_turn 12 (.iload_n 2) 1 13 := ⟨DX7_turn_c0.2.2.2.2.2.2.2.2.1, rfl⟩
theorem dX7_turn_13 : Db cX7_turn 13 (fun o => .ifCond .ne o) 16 82 := ⟨69, DX7_turn_c0.2.2.2.2.2.2.2.2.2.1, rfl, rfl⟩
theorem dX7_turn_16 : Dc cX7_turn 16 (.aload_n 0) 1 17 := ⟨DX7_turn_c0.2.2.2.2.2.2.2.2.2.2.1, rfl⟩
theorem dX7_turn_17 : Dc cX7_turn 17 (.getfield 28) 3 20 := ⟨DX7_turn_c0.2.2.2.2.2.2.2.2.2.2.2.1, rfl⟩
theorem dX7_turn_20 : Dc cX7_turn 20 (.iload_n 3) 1 21 := ⟨DX7_turn_c0.2.2.2.2.2.2.2.2.2.2.2.2.1, rfl⟩
theorem dX7_turn_21 : Dc cX7_turn 21 (.iaload) 1 22 := ⟨DX7_turn_c0.2.2.2.2.2.2.2.2.2.2.2.2.2.1, rfl⟩
theorem dX7_turn_22 : Dc cX7_turn 22 (.iload_n 1) 1 23 := ⟨DX7_turn_c0.2.2.2.2.2.2.2.2.2.2.2.2.2.2.1, rfl⟩
theorem dX7_turn_23 : Dc cX7_turn 23 (.aload_n 0) 1 24 := ⟨DX7_turn_c0.2.2.2.2.2.2.2.2.2.2.2.2.2.2.2, rfl⟩
theorem DX7_turn_c1 : decode cX7_turn 24 = .ok (.getfield 31, 3) ∧ decode cX7_turn 27 = .ok (.iload_n 3, 1) ∧ decode cX7_turn 28 = .ok (.iaload, 1) ∧ decode cX7_turn 29 = .ok (.imul, 1) ∧ decode cX7_turn 30 = .ok (.iadd, 1) ∧ decode cX7_turn 31 = .ok (.istore 4, 2) ∧ decode cX7_turn 33 = .ok (.iload 4, 2) ∧ decode cX7_turn 35 = .ok (.iconst 0, 1) ∧ decode cX7_turn 36 = .ok (.aload_n 0, 1) ∧ decode cX7_turn 37 = .ok (.getfield 25, 3) ∧ decode cX7_turn 40 = .ok (.iload_n 3, 1) ∧ decode cX7_turn 41 = .ok (.iaload, 1) ∧ decode cX7_turn 42 = .ok (.invokestatic 56, 3) ∧ decode cX7_turn 45 = .ok (.invokestatic 37, 3) ∧ decode cX7_turn 48 = .ok (.ifCond .ne 7, 3) ∧ decode cX7_turn 51 = .ok (.iconst 1, 1) := by decide +kernel
theorem dX7_turn_24 : Dc cX7_turn 24 (.getfield 31) 3 27 := ⟨DX7_turn_c1.1, rfl⟩
theorem dX7_turn_27 : Dc cX7_turn 27 (.iload_n 3) 1 28 := ⟨DX7_turn_c1.2.1, rfl⟩
theorem dX7_turn_28 : Dc cX7_turn 28 (.iaload) 1 29 := ⟨DX7_turn_c1.2.2.1, rfl⟩
theorem dX7_turn_29 : Dc cX7_turn 29 (.imul) 1 30 := ⟨DX7_turn_c1.2.2.2.1, rfl⟩
theorem dX7_turn_30 : Dc cX7_turn 30 (.iadd) 1 31 := ⟨DX7_turn_c1.2.2.2.2.1, rfl⟩
theorem dX7_turn_31 : Dc cX7_turn 31 (.istore 4) 2 33 := ⟨DX7_turn_c1.2.2.2.2.2.1, rfl⟩
theorem dX7_turn_33 : Dc cX7_turn 33 (.iload 4) 2 35 := ⟨DX7_turn_c1.2.2.2.2.2.2.1, rfl⟩
theorem dX7_turn_35 : Dc cX7_turn 35 (.iconst 0) 1 36 := ⟨DX7_turn_c1.2.2.2.2.2.2.2.1, rfl⟩
theorem dX7_turn_36 : Dc cX7_turn 36 (.aload_n 0) 1 37 := ⟨DX7_turn_c1.2.2.2.2.2.2.2.2.1, rfl⟩
theorem dX7_turn_37 : Dc cX7_turn 37 (.getfield 25) 3 40 := ⟨DX7_turn_c1.2.2.2.2.2.2.2.2.2.1, rfl⟩
theorem dX7_turn_40 : Dc cX7_turn 40 (.iload_n 3) 1 41 := ⟨DX7_turn_c1.2.2.2.2.2.2.2.2.2.2.1, rfl⟩
theorem dX7_turn_41 : Dc cX7_turn 41 (.iaload) 1 42 := ⟨DX7_turn_c1.2.2.2.2.2.2.2.2.2.2.2.1, rfl⟩
theorem dX7_turn_42 : Dc cX7_turn 42 (.invokestatic 56) 3 45 := ⟨DX7_turn_c1.2.2.2.2.2.2.2.2.2.2.2.2.1, rfl⟩
theorem dX7_turn_45 : Dc cX7_turn 45 (.invokestatic 37) 3 48 := ⟨DX7_turn_c1.2.2.2.2.2.2.2.2.2.2.2.2.2.1, rfl⟩
theorem dX7_turn_48 : Db cX7_turn 48 (fun o => .ifCond .ne o) 51 55 := ⟨7, DX7_turn_c1.2.2.2.2.2.2.2.2.2.2.2.2.2.2.1, rfl, rfl⟩
theorem dX7_turn_51 : Dc cX7_turn 51 (.iconst 1) 1 52 := ⟨DX7_turn_c1.2.2.2.2.2.2.2.2.2.2.2.2.2.2.2, rfl⟩
theorem DX7_turn_c2 : decode cX7_turn 52 = .ok (.goto 23, 3) ∧ decode cX7_turn 55 = .ok (.aload_n 0, 1) ∧ decode cX7_turn 56 = .ok (.aload_n 0, 1) ∧ decode cX7_turn 57 = .ok (.getfield 25, 3) ∧ decode cX7_turn 60 = .ok (.iload_n 3, 1) ∧ decode cX7_turn 61 = .ok (.iaload, 1) ∧ decode cX7_turn 62 = .ok (.iload 4, 2) ∧ decode cX7_turn 64 = .ok (.invokevirtual 63, 3) ∧ decode cX7_turn 67 = .ok (.ifCond .eq 7, 3) ∧ decode cX7_turn 70 = .ok (.iconst 0, 1) ∧ decode cX7_turn 71 = .ok (.goto 4, 3) ∧ decode cX7_turn 74 = .ok (.iconst 2, 1) ∧ decode cX7_turn 75 = .ok (.istore_n 2, 1) ∧ decode cX7_turn 76 = .ok (.iinc 3 1, 3) ∧ decode cX7_turn 79 = .ok (.goto (-75), 3) ∧ decode cX7_turn 82 = .ok (.iload_n 2, 1) := by decide +kernel
theorem dX7_turn_52 : Db cX7_turn 52 .goto 55 75 := ⟨23, DX7_turn_c2.1, rfl, rfl⟩
theorem dX7_turn_55 : Dc cX7_turn 55 (.aload_n 0) 1 56 := ⟨DX7_turn_c2.2.1, rfl⟩
theorem dX7_turn_56 : Dc cX7_turn 56 (.aload_n 0) 1 57 := ⟨DX7_turn_c2.2.2.1, rfl⟩
theorem dX7_turn_57 : Dc cX7_turn 57 (.getfield 25) 3 60 := ⟨DX7_turn_c2.2.2.2.1, rfl⟩
theorem dX7_turn_60 : Dc cX7_turn 60 (.iload_n 3) 1 61 := ⟨DX7_turn_c2.2.2.2.2.1, rfl⟩
theorem dX7_turn_61 : Dc cX7_turn 61 (.iaload) 1 62 := ⟨DX7_turn_c2.2.2.2.2.2.1, rfl⟩
theorem dX7_turn_62 : Dc cX7_turn 62 (.iload 4) 2 64 := ⟨DX7_turn_c2.2.2.2.2.2.2.1, rfl⟩
theorem dX7_turn_64 : Dc cX7_turn 64 (.invokevirtual 63) 3 67 := ⟨DX7_turn_c2.2.2.2.2.2.2.2.1, rfl⟩
theorem dX7_turn_67 : Db cX7_turn 67 (fun o => .ifCond .eq o) 70 74 := ⟨7, DX7_turn_c2.2.2.2.2.2.2.2.2.1, rfl, rfl⟩
theorem dX7_turn_70 : Dc cX7_turn 70 (.iconst 0) 1 71 := ⟨DX7_turn_c2.2.2.2.2.2.2.2.2.2.1, rfl⟩
theorem dX7_turn_71 : Db cX7_turn 71 .goto 74 75 := ⟨4, DX7_turn_c2.2.2.2.2.2.2.2.2.2.2.1, rfl, rfl⟩
theorem dX7_turn_74 : Dc cX7_turn 74 (.iconst 2) 1 75 := ⟨DX7_turn_c2.2.2.2.2.2.2.2.2.2.2.2.1, rfl⟩
theorem dX7_turn_75 : Dc cX7_turn 75 (.istore_n 2) 1 76 := ⟨DX7_turn_c2.2.2.2.2.2.2.2.2.2.2.2.2.1, rfl⟩
theorem dX7_turn_76 : Dc cX7_turn 76 (.iinc 3 1) 3 79 := ⟨DX7_turn_c2.2.2.2.2.2.2.2.2.2.2.2.2.2.1, rfl⟩
theorem dX7_turn_79 : Db cX7_turn 79 .goto 82 4 := ⟨-75, DX7_turn_c2.2.2.2.2.2.2.2.2.2.2.2.2.2.2.1, rfl, rfl⟩
theorem dX7_turn_82 : Dc cX7_turn 82 (.iload_n 2) 1 83 := ⟨DX7_turn_c2.2.2.2.2.2.2.2.2.2.2.2.2.2.2.2, rfl⟩
theorem DX7_turn_c3 : decode cX7_turn 83 = .ok (.ireturn, 1) := by decide +kernel
theorem dX7_turn_83 : Dc cX7_turn 83 (.ireturn) 1 84 := ⟨DX7_turn_c3, rfl⟩
theorem DX7_playBody_c0 : decode cX7_playBody 0 = .ok (.iconst 0, 1) ∧ decode cX7_playBody 1 = .ok (.istore_n 2, 1) ∧ decode cX7_playBody 2 = .ok (.iconst 0, 1) ∧ decode cX7_playBody 3 = .ok (.istore_n 3, 1) ∧ decode cX7_playBody 4 = .ok (.iload_n 3, 1) ∧ decode cX7_playBody 5 = .ok (.iload_n 1, 1) ∧ decode cX7_playBody 6 = .ok (.if_icmp .ge 19, 3) ∧ decode cX7_playBody 9 = .ok (.iload_n 2, 1) ∧ decode cX7_playBody 10 = .ok (.ifCond .ne 15, 3) ∧ decode cX7_playBody 13 = .ok (.aload_n 0, 1) ∧ decode cX7_playBody 14 = .ok (.iload_n 3, 1) ∧ decode cX7_playBody 15 = .ok (.invokevirtual 98, 3) ∧ decode cX7_playBody 18 = .ok (.istore_n 2, 1) ∧ decode cX7_playBody 19 = .ok (.iinc 3 1, 3) ∧ decode cX7_playBody 22 = .ok (.goto (-18), 3) ∧ decode cX7_playBody 25 = .ok (.aload_n 0, 1) := by decide +kernel
theorem dX7_playBody_0 : Dc cX7_playBody 0 (.iconst 0) 1 1 := ⟨DX7_playBody_c0.1, rfl⟩
theorem dX7_playBody_1 : Dc cX7_playBody 1 (.istore_n 2) 1 2 := ⟨DX7_playBody_c0.2.1, rfl⟩
theorem dX7_playBody_2 : Dc cX7_playBody 2 (.iconst 0) 1 3 := ⟨DX7_playBody_c0.2.2.1, rfl⟩
theorem dX7_playBody_3 : Dc cX7_playBody 3 (.istore_n 3) 1 4 := ⟨DX7_playBody_c0.2.2.2.1, rfl⟩
theorem dX7_playBody_4 : Dc cX7_playBody 4 (.iload_n 3) 1 5 := ⟨DX7_playBody_c0.2.2.2.2.1, rfl⟩
theorem dX7_playBody_5 : Dc cX7_playBody 5 (.iload_n 1) 1 6 := ⟨DX7_playBody_c0.2.2.2.2.2.1, rfl⟩
theorem dX7_playBody_6 : Db cX7_playBody 6 (fun o => .if_icmp .ge o) 9 25 := ⟨19, DX7_playBody_c0.2.2.2.2.2.2.1, rfl, rfl⟩
theorem dX7_playBody_9 : Dc cX7_playBody 9 (.iload_n 2) 1 10 := ⟨DX7_playBody_c0.2.2.2.2.2.2.2.1, rfl⟩
theorem dX7_playBody_10 : Db cX7_playBody 10 (fun o => .ifCond .ne o) 13 25 := ⟨15, DX7_playBody_c0.2.2.2.2.2.2.2.2.1, rfl, rfl⟩
theorem dX7_playBody_13 : Dc cX7_playBody 13 (.aload_n 0) 1 14 := ⟨DX7_playBody_c0.2.2.2.2.2.2.2.2.2.1, rfl⟩
theorem dX7_playBody_14 : Dc cX7_playBody 14 (.iload_n 3) 1 15 := ⟨DX7_playBody_c0.2.2.2.2.2.2.2.2.2.2.1, rfl⟩
theorem dX7_playBody_15 : Dc cX7_playBody 15 (.invokevirtual 98) 3 18 := ⟨DX7_playBody_c0.2.2.2.2.2.2.2.2.2.2.2.1, rfl⟩
theorem dX7_playBody_18 : Dc cX7_playBody 18 (.istore_n 2) 1 19 := ⟨DX7_playBody_c0.2.2.2.2.2.2.2.2.2.2.2.2.1, rfl⟩
theorem dX7_playBody_19 : Dc cX7_playBody 19 (.iinc 3 1) 3 22 := ⟨DX7_playBody_c0.2.2.2.2.2.2.2.2.2.2.2.2.2.1, rfl⟩
theorem dX7_playBody_22 : Db cX7_playBody 22 .goto 25 4 := ⟨-18, DX7_playBody_c0.2.2.2.2.2.2.2.2.2.2.2.2.2.2.1, rfl, rfl⟩
theorem dX7_playBody_25 : Dc cX7_playBody 25 (.aload_n 0) 1 26 := ⟨DX7_playBody_c0.2.2.2.2.2.2.2.2.2.2.2.2.2.2.2, rfl⟩
theorem DX7_playBody_c1 : decode cX7_playBody 26 = .ok (.getfield 7, 3) ∧ decode cX7_playBody 29 = .ok (.bipush 36, 2) ∧ decode cX7_playBody 31 = .ok (.dup2, 1) ∧ decode cX7_playBody 32 = .ok (.iaload, 1) ∧ decode cX7_playBody 33 = .ok (.iconst 1, 1) ∧ decode cX7_playBody 34 = .ok (.iadd, 1) ∧ decode cX7_playBody 35 = .ok (.iastore, 1) ∧ decode cX7_playBody 36 = .ok (.aload_n 0, 1) ∧ decode cX7_playBody 37 = .ok (.getfield 7, 3) ∧ decode cX7_playBody 40 = .ok (.bipush 37, 2) ∧ decode cX7_playBody 42 = .ok (.iload_n 2, 1) ∧ decode cX7_playBody 43 = .ok (.iastore, 1) ∧ decode cX7_playBody 44 = .ok (.return_, 1) := by decide +kernel
theorem dX7_playBody_26 : Dc cX7_playBody 26 (.getfield 7) 3 29 := ⟨DX7_playBody_c1.1, rfl⟩
theorem dX7_playBody_29 : Dc cX7_playBody 29 (.bipush 36) 2 31 := ⟨DX7_playBody_c1.2.1, rfl⟩
theorem dX7_playBody_31 : Dc cX7_playBody 31 (.dup2) 1 32 := ⟨DX7_playBody_c1.2.2.1, rfl⟩
theorem dX7_playBody_32 : Dc cX7_playBody 32 (.iaload) 1 33 := ⟨DX7_playBody_c1.2.2.2.1, rfl⟩
theorem dX7_playBody_33 : Dc cX7_playBody 33 (.iconst 1) 1 34 := ⟨DX7_playBody_c1.2.2.2.2.1, rfl⟩
theorem dX7_playBody_34 : Dc cX7_playBody 34 (.iadd) 1 35 := ⟨DX7_playBody_c1.2.2.2.2.2.1, rfl⟩
theorem dX7_playBody_35 : Dc cX7_playBody 35 (.iastore) 1 36 := ⟨DX7_playBody_c1.2.2.2.2.2.2.1, rfl⟩
theorem dX7_playBody_36 : Dc cX7_playBody 36 (.aload_n 0) 1 37 := ⟨DX7_playBody_c1.2.2.2.2.2.2.2.1, rfl⟩
theorem dX7_playBody_37 : Dc cX7_playBody 37 (.getfield 7) 3 40 := ⟨DX7_playBody_c1.2.2.2.2.2.2.2.2.1, rfl⟩
theorem dX7_playBody_40 : Dc cX7_playBody 40 (.bipush 37) 2 42 := ⟨DX7_playBody_c1.2.2.2.2.2.2.2.2.2.1, rfl⟩
theorem dX7_playBody_42 : Dc cX7_playBody 42 (.iload_n 2) 1 43 := ⟨DX7_playBody_c1.2.2.2.2.2.2.2.2.2.2.1, rfl⟩
theorem dX7_playBody_43 : Dc cX7_playBody 43 (.iastore) 1 44 := ⟨DX7_playBody_c1.2.2.2.2.2.2.2.2.2.2.2.1, rfl⟩
theorem dX7_playBody_44 : Dc cX7_playBody 44 (.return_) 1 45 := ⟨DX7_playBody_c1.2.2.2.2.2.2.2.2.2.2.2.2, rfl⟩
theorem DX7_playLoop_c0 : decode cX7_playLoop 0 = .ok (.aload_n 0, 1) ∧ decode cX7_playLoop 1 = .ok (.iload_n 1, 1) ∧ decode cX7_playLoop 2 = .ok (.invokevirtual 101, 3) ∧ decode cX7_playLoop 5 = .ok (.aload_n 0, 1) ∧ decode cX7_playLoop 6 = .ok (.iload_n 2, 1) ∧ decode cX7_playLoop 7 = .ok (.invokevirtual 105, 3) ∧ decode cX7_playLoop 10 = .ok (.return_, 1) := by decide +kernel
theorem dX7_playLoop_0 : Dc cX7_playLoop 0 (.aload_n 0) 1 1 := ⟨DX7_playLoop_c0.1, rfl⟩
theorem dX7_playLoop_1 : Dc cX7_playLoop 1 (.iload_n 1) 1 2 := ⟨DX7_playLoop_c0.2.1, rfl⟩
theorem dX7_playLoop_2 : Dc cX7_playLoop 2 (.invokevirtual 101) 3 5 := ⟨DX7_playLoop_c0.2.2.1, rfl⟩
theorem dX7_playLoop_5 : Dc cX7_playLoop 5 (.aload_n 0) 1 6 := ⟨DX7_playLoop_c0.2.2.2.1, rfl⟩
theorem dX7_playLoop_6 : Dc cX7_playLoop 6 (.iload_n 2) 1 7 := ⟨DX7_playLoop_c0.2.2.2.2.1, rfl⟩
theorem dX7_playLoop_7 : Dc cX7_playLoop 7 (.invokevirtual 105) 3 10 := ⟨DX7_playLoop_c0.2.2.2.2.2.1, rfl⟩
theorem dX7_playLoop_10 : Dc cX7_playLoop 10 (.return_) 1 11 := ⟨DX7_playLoop_c0.2.2.2.2.2.2, rfl⟩
theorem DX7_play_c0 : decode cX7_play 0 = .ok (.aload_n 0, 1) ∧ decode cX7_play 1 = .ok (.iload_n 1, 1) ∧ decode cX7_play 2 = .ok (.invokevirtual 92, 3) ∧ decode cX7_play 5 = .ok (.ifCond .ne 5, 3) ∧ decode cX7_play 8 = .ok (.iconst (-1), 1) ∧ decode cX7_play 9 = .ok (.ireturn, 1) ∧ decode cX7_play 10 = .ok (.aload_n 0, 1) ∧ decode cX7_play 11 = .ok (.getfield 7, 3) ∧ decode cX7_play 14 = .ok (.bipush 32, 2) ∧ decode cX7_play 16 = .ok (.iaload, 1) ∧ decode cX7_play 17 = .ok (.iconst 1, 1) ∧ decode cX7_play 18 = .ok (.if_icmp .ne 6, 3) ∧ decode cX7_play 21 = .ok (.bipush (-4), 2) ∧ decode cX7_play 23 = .ok (.ireturn, 1) ∧ decode cX7_play 24 = .ok (.aload_n 0, 1) ∧ decode cX7_play 25 = .ok (.invokevirtual 53, 3) := by decide +kernel
theorem dX7_play_0 : Dc cX7_play 0 (.aload_n 0) 1 1 := ⟨DX7_play_c0.1, rfl⟩
theorem dX7_play_1 : Dc cX7_play 1 (.iload_n 1) 1 2 := ⟨DX7_play_c0.2.1, rfl⟩
theorem dX7_play_2 : Dc cX7_play 2 (.invokevirtual 92) 3 5 := ⟨DX7_play_c0.2.2.1, rfl⟩
theorem dX7_play_5 : Db cX7_play 5 (fun o => .ifCond .ne o) 8 10 := ⟨5, DX7_play_c0.2.2.2.1, rfl, rfl⟩
theorem dX7_play_8 : Dc cX7_play 8 (.iconst (-1)) 1 9 := ⟨DX7_play_c0.2.2.2.2.1, rfl⟩
theorem dX7_play_9 : Dc cX7_play 9 (.ireturn) 1 10 := ⟨DX7_play_c0.2.2.2.2.2.1, rfl⟩
theorem dX7_play_10 : Dc cX7_play 10 (.aload_n 0) 1 11 := ⟨DX7_play_c0.2.2.2.2.2.2.1, rfl⟩
theorem dX7_play_11 : Dc cX7_play 11 (.getfield 7) 3 14 := ⟨DX7_play_c0.2.2.2.2.2.2.2.1, rfl⟩
theorem dX7_play_14 : Dc cX7_play 14 (.bipush 32) 2 16 := ⟨DX7_play_c0.2.2.2.2.2.2.2.2.1, rfl⟩
theorem dX7_play_16 : Dc cX7_play 16 (.iaload) 1 17 := ⟨DX7_play_c0.2.2.2.2.2.2.2.2.2.1, rfl⟩
theorem dX7_play_17 : Dc cX7_play 17 (.iconst 1) 1 18 := ⟨DX7_play_c0.2.2.2.2.2.2.2.2.2.2.1, rfl⟩
theorem dX7_play_18 : Db cX7_play 18 (fun o => .if_icmp .ne o) 21 24 := ⟨6, DX7_play_c0.2.2.2.2.2.2.2.2.2.2.2.1, rfl, rfl⟩
theorem dX7_play_21 : Dc cX7_play 21 (.bipush (-4)) 2 23 := ⟨DX7_play_c0.2.2.2.2.2.2.2.2.2.2.2.2.1, rfl⟩
theorem dX7_play_23 : Dc cX7_play 23 (.ireturn) 1 24 := ⟨DX7_play_c0.2.2.2.2.2.2.2.2.2.2.2.2.2.1, rfl⟩
theorem dX7_play_24 : Dc cX7_play 24 (.aload_n 0) 1 25 := ⟨DX7_play_c0.2.2.2.2.2.2.2.2.2.2.2.2.2.2.1, rfl⟩
theorem dX7_play_25 : Dc cX7_play 25 (.invokevirtual 53) 3 28 := ⟨DX7_play_c0.2.2.2.2.2.2.2.2.2.2.2.2.2.2.2, rfl⟩
theorem DX7_play_c1 : decode cX7_play 28 = .ok (.aload_n 0, 1) ∧ decode cX7_play 29 = .ok (.getfield 7, 3) ∧ decode cX7_play 32 = .ok (.bipush 34, 2) ∧ decode cX7_play 34 = .ok (.iaload, 1) ∧ decode cX7_play 35 = .ok (.istore_n 2, 1) ∧ decode cX7_play 36 = .ok (.aload_n 0, 1) ∧ decode cX7_play 37 = .ok (.iload_n 1, 1) ∧ decode cX7_play 38 = .ok (.aload_n 0, 1) ∧ decode cX7_play 39 = .ok (.getfield 7, 3) ∧ decode cX7_play 42 = .ok (.sipush 213, 3) ∧ decode cX7_play 45 = .ok (.bipush 38, 2) ∧ decode cX7_play 47 = .ok (.iload_n 1, 1) ∧ decode cX7_play 48 = .ok (.imul, 1) ∧ decode cX7_play 49 = .ok (.iadd, 1) ∧ decode cX7_play 50 = .ok (.iconst 1, 1) ∧ decode cX7_play 51 = .ok (.iadd, 1) := by decide +kernel
theorem dX7_play_28 : Dc cX7_play 28 (.aload_n 0) 1 29 := ⟨DX7_play_c1.1, rfl⟩
theorem dX7_play_29 : Dc cX7_play 29 (.getfield 7) 3 32 := ⟨DX7_play_c1.2.1, rfl⟩
theorem dX7_play_32 : Dc cX7_play 32 (.bipush 34) 2 34 := ⟨DX7_play_c1.2.2.1, rfl⟩
theorem dX7_play_34 : Dc cX7_play 34 (.iaload) 1 35 := ⟨DX7_play_c1.2.2.2.1, rfl⟩
theorem dX7_play_35 : Dc cX7_play 35 (.istore_n 2) 1 36 := ⟨DX7_play_c1.2.2.2.2.1, rfl⟩
theorem dX7_play_36 : Dc cX7_play 36 (.aload_n 0) 1 37 := ⟨DX7_play_c1.2.2.2.2.2.1, rfl⟩
theorem dX7_play_37 : Dc cX7_play 37 (.iload_n 1) 1 38 := ⟨DX7_play_c1.2.2.2.2.2.2.1, rfl⟩
theorem dX7_play_38 : Dc cX7_play 38 (.aload_n 0) 1 39 := ⟨DX7_play_c1.2.2.2.2.2.2.2.1, rfl⟩
theorem dX7_play_39 : Dc cX7_play 39 (.getfield 7) 3 42 := ⟨DX7_play_c1.2.2.2.2.2.2.2.2.1, rfl⟩
theorem dX7_play_42 : Dc cX7_play 42 (.sipush 213) 3 45 := ⟨DX7_play_c1.2.2.2.2.2.2.2.2.2.1, rfl⟩
theorem dX7_play_45 : Dc cX7_play 45 (.bipush 38) 2 47 := ⟨DX7_play_c1.2.2.2.2.2.2.2.2.2.2.1, rfl⟩
theorem dX7_play_47 : Dc cX7_play 47 (.iload_n 1) 1 48 := ⟨DX7_play_c1.2.2.2.2.2.2.2.2.2.2.2.1, rfl⟩
theorem dX7_play_48 : Dc cX7_play 48 (.imul) 1 49 := ⟨DX7_play_c1.2.2.2.2.2.2.2.2.2.2.2.2.1, rfl⟩
theorem dX7_play_49 : Dc cX7_play 49 (.iadd) 1 50 := ⟨DX7_play_c1.2.2.2.2.2.2.2.2.2.2.2.2.2.1, rfl⟩
theorem dX7_play_50 : Dc cX7_play 50 (.iconst 1) 1 51 := ⟨DX7_play_c1.2.2.2.2.2.2.2.2.2.2.2.2.2.2.1, rfl⟩
theorem dX7_play_51 : Dc cX7_play 51 (.iadd) 1 52 := ⟨DX7_play_c1.2.2.2.2.2.2.2.2.2.2.2.2.2.2.2, rfl⟩
theorem DX7_play_c2 : decode cX7_play 52 = .ok (.iaload, 1) ∧ decode cX7_play 53 = .ok (.invokevirtual 108, 3) ∧ decode cX7_play 56 = .ok (.aload_n 0, 1) ∧ decode cX7_play 57 = .ok (.getfield 7, 3) ∧ decode cX7_play 60 = .ok (.bipush 34, 2) ∧ decode cX7_play 62 = .ok (.iaload, 1) ∧ decode cX7_play 63 = .ok (.iload_n 2, 1) ∧ decode cX7_play 64 = .ok (.isub, 1) ∧ decode cX7_play 65 = .ok (.ireturn, 1) := by decide +kernel
theorem dX7_play_52 : Dc cX7_play 52 (.iaload) 1 53 := ⟨DX7_play_c2.1, rfl⟩
theorem dX7_play_53 : Dc cX7_play 53 (.invokevirtual 108) 3 56 := ⟨DX7_play_c2.2.1, rfl⟩
theorem dX7_play_56 : Dc cX7_play 56 (.aload_n 0) 1 57 := ⟨DX7_play_c2.2.2.1, rfl⟩
theorem dX7_play_57 : Dc cX7_play 57 (.getfield 7) 3 60 := ⟨DX7_play_c2.2.2.2.1, rfl⟩
theorem dX7_play_60 : Dc cX7_play 60 (.bipush 34) 2 62 := ⟨DX7_play_c2.2.2.2.2.1, rfl⟩
theorem dX7_play_62 : Dc cX7_play 62 (.iaload) 1 63 := ⟨DX7_play_c2.2.2.2.2.2.1, rfl⟩
theorem dX7_play_63 : Dc cX7_play 63 (.iload_n 2) 1 64 := ⟨DX7_play_c2.2.2.2.2.2.2.1, rfl⟩
theorem dX7_play_64 : Dc cX7_play 64 (.isub) 1 65 := ⟨DX7_play_c2.2.2.2.2.2.2.2.1, rfl⟩
theorem dX7_play_65 : Dc cX7_play 65 (.ireturn) 1 66 := ⟨DX7_play_c2.2.2.2.2.2.2.2.2, rfl⟩
theorem DX7_type_c0 : decode cX7_type 0 = .ok (.aload_n 0, 1) ∧ decode cX7_type 1 = .ok (.getfield 112, 3) ∧ decode cX7_type 4 = .ok (.bipush 60, 2) ∧ decode cX7_type 6 = .ok (.if_icmp .ne 6, 3) ∧ decode cX7_type 9 = .ok (.bipush (-3), 2) ∧ decode cX7_type 11 = .ok (.ireturn, 1) ∧ decode cX7_type 12 = .ok (.aload_n 0, 1) ∧ decode cX7_type 13 = .ok (.getfield 22, 3) ∧ decode cX7_type 16 = .ok (.aload_n 0, 1) ∧ decode cX7_type 17 = .ok (.getfield 112, 3) ∧ decode cX7_type 20 = .ok (.iload_n 1, 1) ∧ decode cX7_type 21 = .ok (.iastore, 1) ∧ decode cX7_type 22 = .ok (.aload_n 0, 1) ∧ decode cX7_type 23 = .ok (.dup, 1) ∧ decode cX7_type 24 = .ok (.getfield 112, 3) ∧ decode cX7_type 27 = .ok (.iconst 1, 1) := by decide +kernel
theorem dX7_type_0 : Dc cX7_type 0 (.aload_n 0) 1 1 := ⟨DX7_type_c0.1, rfl⟩
theorem dX7_type_1 : Dc cX7_type 1 (.getfield 112) 3 4 := ⟨DX7_type_c0.2.1, rfl⟩
theorem dX7_type_4 : Dc cX7_type 4 (.bipush 60) 2 6 := ⟨DX7_type_c0.2.2.1, rfl⟩
theorem dX7_type_6 : Db cX7_type 6 (fun o => .if_icmp .ne o) 9 12 := ⟨6, DX7_type_c0.2.2.2.1, rfl, rfl⟩
theorem dX7_type_9 : Dc cX7_type 9 (.bipush (-3)) 2 11 := ⟨DX7_type_c0.2.2.2.2.1, rfl⟩
theorem dX7_type_11 : Dc cX7_type 11 (.ireturn) 1 12 := ⟨DX7_type_c0.2.2.2.2.2.1, rfl⟩
theorem dX7_type_12 : Dc cX7_type 12 (.aload_n 0) 1 13 := ⟨DX7_type_c0.2.2.2.2.2.2.1, rfl⟩
theorem dX7_type_13 : Dc cX7_type 13 (.getfield 22) 3 16 := ⟨DX7_type_c0.2.2.2.2.2.2.2.1, rfl⟩
theorem dX7_type_16 : Dc cX7_type 16 (.aload_n 0) 1 17 := ⟨DX7_type_c0.2.2.2.2.2.2.2.2.1, rfl⟩
theorem dX7_type_17 : Dc cX7_type 17 (.getfield 112) 3 20 := ⟨DX7_type_c0.2.2.2.2.2.2.2.2.2.1, rfl⟩
theorem dX7_type_20 : Dc cX7_type 20 (.iload_n 1) 1 21 := ⟨DX7_type_c0.2.2.2.2.2.2.2.2.2.2.1, rfl⟩
theorem dX7_type_21 : Dc cX7_type 21 (.iastore) 1 22 := ⟨DX7_type_c0.2.2.2.2.2.2.2.2.2.2.2.1, rfl⟩
theorem dX7_type_22 : Dc cX7_type 22 (.aload_n 0) 1 23 := ⟨DX7_type_c0.2.2.2.2.2.2.2.2.2.2.2.2.1, rfl⟩
theorem dX7_type_23 : Dc cX7_type 23 (.dup) 1 24 := ⟨DX7_type_c0.2.2.2.2.2.2.2.2.2.2.2.2.2.1, rfl⟩
theorem dX7_type_24 : Dc cX7_type 24 (.getfield 112) 3 27 := ⟨DX7_type_c0.2.2.2.2.2.2.2.2.2.2.2.2.2.2.1, rfl⟩
theorem dX7_type_27 : Dc cX7_type 27 (.iconst 1) 1 28 := ⟨DX7_type_c0.2.2.2.2.2.2.2.2.2.2.2.2.2.2.2, rfl⟩
theorem DX7_type_c1 : decode cX7_type 28 = .ok (.iadd, 1) ∧ decode cX7_type 29 = .ok (.putfield 112, 3) ∧ decode cX7_type 32 = .ok (.aload_n 0, 1) ∧ decode cX7_type 33 = .ok (.getfield 112, 3) ∧ decode cX7_type 36 = .ok (.ireturn, 1) := by decide +kernel
theorem dX7_type_28 : Dc cX7_type 28 (.iadd) 1 29 := ⟨DX7_type_c1.1, rfl⟩
theorem dX7_type_29 : Dc cX7_type 29 (.putfield 112) 3 32 := ⟨DX7_type_c1.2.1, rfl⟩
theorem dX7_type_32 : Dc cX7_type 32 (.aload_n 0) 1 33 := ⟨DX7_type_c1.2.2.1, rfl⟩
theorem dX7_type_33 : Dc cX7_type 33 (.getfield 112) 3 36 := ⟨DX7_type_c1.2.2.2.1, rfl⟩
theorem dX7_type_36 : Dc cX7_type 36 (.ireturn) 1 37 := ⟨DX7_type_c1.2.2.2.2, rfl⟩
theorem DX7_clearText_c0 : decode cX7_clearText 0 = .ok (.aload_n 0, 1) ∧ decode cX7_clearText 1 = .ok (.getfield 112, 3) ∧ decode cX7_clearText 4 = .ok (.istore_n 1, 1) ∧ decode cX7_clearText 5 = .ok (.aload_n 0, 1) ∧ decode cX7_clearText 6 = .ok (.iconst 0, 1) ∧ decode cX7_clearText 7 = .ok (.putfield 112, 3) ∧ decode cX7_clearText 10 = .ok (.iload_n 1, 1) ∧ decode cX7_clearText 11 = .ok (.ireturn, 1) := by decide +kernel
theorem dX7_clearText_0 : Dc cX7_clearText 0 (.aload_n 0) 1 1 := ⟨DX7_clearText_c0.1, rfl⟩
theorem dX7_clearText_1 : Dc cX7_clearText 1 (.getfield 112) 3 4 := ⟨DX7_clearText_c0.2.1, rfl⟩
theorem dX7_clearText_4 : Dc cX7_clearText 4 (.istore_n 1) 1 5 := ⟨DX7_clearText_c0.2.2.1, rfl⟩
theorem dX7_clearText_5 : Dc cX7_clearText 5 (.aload_n 0) 1 6 := ⟨DX7_clearText_c0.2.2.2.1, rfl⟩
theorem dX7_clearText_6 : Dc cX7_clearText 6 (.iconst 0) 1 7 := ⟨DX7_clearText_c0.2.2.2.2.1, rfl⟩
theorem dX7_clearText_7 : Dc cX7_clearText 7 (.putfield 112) 3 10 := ⟨DX7_clearText_c0.2.2.2.2.2.1, rfl⟩
theorem dX7_clearText_10 : Dc cX7_clearText 10 (.iload_n 1) 1 11 := ⟨DX7_clearText_c0.2.2.2.2.2.2.1, rfl⟩
theorem dX7_clearText_11 : Dc cX7_clearText 11 (.ireturn) 1 12 := ⟨DX7_clearText_c0.2.2.2.2.2.2.2, rfl⟩
theorem DX7_sees_c0 : decode cX7_sees 0 = .ok (.aload_n 0, 1) ∧ decode cX7_sees 1 = .ok (.getfield 115, 3) ∧ decode cX7_sees 4 = .ok (.aload_n 0, 1) ∧ decode cX7_sees 5 = .ok (.getfield 112, 3) ∧ decode cX7_sees 8 = .ok (.if_icmp .ge 24, 3) ∧ decode cX7_sees 11 = .ok (.aload_n 0, 1) ∧ decode cX7_sees 12 = .ok (.getfield 22, 3) ∧ decode cX7_sees 15 = .ok (.aload_n 0, 1) ∧ decode cX7_sees 16 = .ok (.getfield 115, 3) ∧ decode cX7_sees 19 = .ok (.iaload, 1) ∧ decode cX7_sees 20 = .ok (.iload_n 1, 1) ∧ decode cX7_sees 21 = .ok (.iload_n 2, 1) ∧ decode cX7_sees 22 = .ok (.invokestatic 37, 3) ∧ decode cX7_sees 25 = .ok (.ifCond .eq 7, 3) ∧ decode cX7_sees 28 = .ok (.iconst 1, 1) ∧ decode cX7_sees 29 = .ok (.goto 4, 3) := by decide +kernel
theorem dX7_sees_0 : Dc cX7_sees 0 (.aload_n 0) 1 1 := ⟨DX7_sees_c0.1, rfl⟩
theorem dX7_sees_1 : Dc cX7_sees 1 (.getfield 115) 3 4 := ⟨DX7_sees_c0.2.1, rfl⟩
theorem dX7_sees_4 : Dc cX7_sees 4 (.aload_n 0) 1 5 := ⟨DX7_sees_c0.2.2.1, rfl⟩
theorem dX7_sees_5 : Dc cX7_sees 5 (.getfield 112) 3 8 := ⟨DX7_sees_c0.2.2.2.1, rfl⟩
theorem dX7_sees_8 : Db cX7_sees 8 (fun o => .if_icmp .ge o) 11 32 := ⟨24, DX7_sees_c0.2.2.2.2.1, rfl, rfl⟩
theorem dX7_sees_11 : Dc cX7_sees 11 (.aload_n 0) 1 12 := ⟨DX7_sees_c0.2.2.2.2.2.1, rfl⟩
theorem dX7_sees_12 : Dc cX7_sees 12 (.getfield 22) 3 15 := ⟨DX7_sees_c0.2.2.2.2.2.2.1, rfl⟩
theorem dX7_sees_15 : Dc cX7_sees 15 (.aload_n 0) 1 16 := ⟨DX7_sees_c0.2.2.2.2.2.2.2.1, rfl⟩
theorem dX7_sees_16 : Dc cX7_sees 16 (.getfield 115) 3 19 := ⟨DX7_sees_c0.2.2.2.2.2.2.2.2.1, rfl⟩
theorem dX7_sees_19 : Dc cX7_sees 19 (.iaload) 1 20 := ⟨DX7_sees_c0.2.2.2.2.2.2.2.2.2.1, rfl⟩
theorem dX7_sees_20 : Dc cX7_sees 20 (.iload_n 1) 1 21 := ⟨DX7_sees_c0.2.2.2.2.2.2.2.2.2.2.1, rfl⟩
theorem dX7_sees_21 : Dc cX7_sees 21 (.iload_n 2) 1 22 := ⟨DX7_sees_c0.2.2.2.2.2.2.2.2.2.2.2.1, rfl⟩
theorem dX7_sees_22 : Dc cX7_sees 22 (.invokestatic 37) 3 25 := ⟨DX7_sees_c0.2.2.2.2.2.2.2.2.2.2.2.2.1, rfl⟩
theorem dX7_sees_25 : Db cX7_sees 25 (fun o => .ifCond .eq o) 28 32 := ⟨7, DX7_sees_c0.2.2.2.2.2.2.2.2.2.2.2.2.2.1, rfl, rfl⟩
theorem dX7_sees_28 : Dc cX7_sees 28 (.iconst 1) 1 29 := ⟨DX7_sees_c0.2.2.2.2.2.2.2.2.2.2.2.2.2.2.1, rfl⟩
theorem dX7_sees_29 : Db cX7_sees 29 .goto 32 33 := ⟨4, DX7_sees_c0.2.2.2.2.2.2.2.2.2.2.2.2.2.2.2, rfl, rfl⟩
theorem DX7_sees_c1 : decode cX7_sees 32 = .ok (.iconst 0, 1) ∧ decode cX7_sees 33 = .ok (.ireturn, 1) := by decide +kernel
theorem dX7_sees_32 : Dc cX7_sees 32 (.iconst 0) 1 33 := ⟨DX7_sees_c1.1, rfl⟩
theorem dX7_sees_33 : Dc cX7_sees 33 (.ireturn) 1 34 := ⟨DX7_sees_c1.2, rfl⟩
theorem DX7_takes_c0 : decode cX7_takes 0 = .ok (.aload_n 0, 1) ∧ decode cX7_takes 1 = .ok (.iload_n 1, 1) ∧ decode cX7_takes 2 = .ok (.iload_n 1, 1) ∧ decode cX7_takes 3 = .ok (.invokevirtual 118, 3) ∧ decode cX7_takes 6 = .ok (.istore_n 2, 1) ∧ decode cX7_takes 7 = .ok (.aload_n 0, 1) ∧ decode cX7_takes 8 = .ok (.dup, 1) ∧ decode cX7_takes 9 = .ok (.getfield 115, 3) ∧ decode cX7_takes 12 = .ok (.iload_n 2, 1) ∧ decode cX7_takes 13 = .ok (.ifCond .eq 7, 3) ∧ decode cX7_takes 16 = .ok (.iconst 1, 1) ∧ decode cX7_takes 17 = .ok (.goto 4, 3) ∧ decode cX7_takes 20 = .ok (.iconst 0, 1) ∧ decode cX7_takes 21 = .ok (.iadd, 1) ∧ decode cX7_takes 22 = .ok (.putfield 115, 3) ∧ decode cX7_takes 25 = .ok (.iload_n 2, 1) := by decide +kernel
theorem dX7_takes_0 : Dc cX7_takes 0 (.aload_n 0) 1 1 := ⟨DX7_takes_c0.1, rfl⟩
theorem dX7_takes_1 : Dc cX7_takes 1 (.iload_n 1) 1 2 := ⟨DX7_takes_c0.2.1, rfl⟩
theorem dX7_takes_2 : Dc cX7_takes 2 (.iload_n 1) 1 3 := ⟨DX7_takes_c0.2.2.1, rfl⟩
theorem dX7_takes_3 : Dc cX7_takes 3 (.invokevirtual 118) 3 6 := ⟨DX7_takes_c0.2.2.2.1, rfl⟩
theorem dX7_takes_6 : Dc cX7_takes 6 (.istore_n 2) 1 7 := ⟨DX7_takes_c0.2.2.2.2.1, rfl⟩
theorem dX7_takes_7 : Dc cX7_takes 7 (.aload_n 0) 1 8 := ⟨DX7_takes_c0.2.2.2.2.2.1, rfl⟩
theorem dX7_takes_8 : Dc cX7_takes 8 (.dup) 1 9 := ⟨DX7_takes_c0.2.2.2.2.2.2.1, rfl⟩
theorem dX7_takes_9 : Dc cX7_takes 9 (.getfield 115) 3 12 := ⟨DX7_takes_c0.2.2.2.2.2.2.2.1, rfl⟩
theorem dX7_takes_12 : Dc cX7_takes 12 (.iload_n 2) 1 13 := ⟨DX7_takes_c0.2.2.2.2.2.2.2.2.1, rfl⟩
theorem dX7_takes_13 : Db cX7_takes 13 (fun o => .ifCond .eq o) 16 20 := ⟨7, DX7_takes_c0.2.2.2.2.2.2.2.2.2.1, rfl, rfl⟩
theorem dX7_takes_16 : Dc cX7_takes 16 (.iconst 1) 1 17 := ⟨DX7_takes_c0.2.2.2.2.2.2.2.2.2.2.1, rfl⟩
theorem dX7_takes_17 : Db cX7_takes 17 .goto 20 21 := ⟨4, DX7_takes_c0.2.2.2.2.2.2.2.2.2.2.2.1, rfl, rfl⟩
theorem dX7_takes_20 : Dc cX7_takes 20 (.iconst 0) 1 21 := ⟨DX7_takes_c0.2.2.2.2.2.2.2.2.2.2.2.2.1, rfl⟩
theorem dX7_takes_21 : Dc cX7_takes 21 (.iadd) 1 22 := ⟨DX7_takes_c0.2.2.2.2.2.2.2.2.2.2.2.2.2.1, rfl⟩
theorem dX7_takes_22 : Dc cX7_takes 22 (.putfield 115) 3 25 := ⟨DX7_takes_c0.2.2.2.2.2.2.2.2.2.2.2.2.2.2.1, rfl⟩
theorem dX7_takes_25 : Dc cX7_takes 25 (.iload_n 2) 1 26 := ⟨DX7_takes_c0.2.2.2.2.2.2.2.2.2.2.2.2.2.2.2, rfl⟩
theorem DX7_takes_c1 : decode cX7_takes 26 = .ok (.ireturn, 1) := by decide +kernel
theorem dX7_takes_26 : Dc cX7_takes 26 (.ireturn) 1 27 := ⟨DX7_takes_c1, rfl⟩
theorem DX7_number_c0 : decode cX7_number 0 = .ok (.aload_n 0, 1) ∧ decode cX7_number 1 = .ok (.bipush 48, 2) ∧ decode cX7_number 3 = .ok (.iload_n 1, 1) ∧ decode cX7_number 4 = .ok (.iadd, 1) ∧ decode cX7_number 5 = .ok (.bipush 57, 2) ∧ decode cX7_number 7 = .ok (.invokevirtual 118, 3) ∧ decode cX7_number 10 = .ok (.ifCond .ne 6, 3) ∧ decode cX7_number 13 = .ok (.bipush (-5), 2) ∧ decode cX7_number 15 = .ok (.ireturn, 1) ∧ decode cX7_number 16 = .ok (.aload_n 0, 1) ∧ decode cX7_number 17 = .ok (.getfield 22, 3) ∧ decode cX7_number 20 = .ok (.aload_n 0, 1) ∧ decode cX7_number 21 = .ok (.getfield 115, 3) ∧ decode cX7_number 24 = .ok (.iaload, 1) ∧ decode cX7_number 25 = .ok (.bipush 48, 2) ∧ decode cX7_number 27 = .ok (.isub, 1) := by decide +kernel
theorem dX7_number_0 : Dc cX7_number 0 (.aload_n 0) 1 1 := ⟨DX7_number_c0.1, rfl⟩
theorem dX7_number_1 : Dc cX7_number 1 (.bipush 48) 2 3 := ⟨DX7_number_c0.2.1, rfl⟩
theorem dX7_number_3 : Dc cX7_number 3 (.iload_n 1) 1 4 := ⟨DX7_number_c0.2.2.1, rfl⟩
theorem dX7_number_4 : Dc cX7_number 4 (.iadd) 1 5 := ⟨DX7_number_c0.2.2.2.1, rfl⟩
theorem dX7_number_5 : Dc cX7_number 5 (.bipush 57) 2 7 := ⟨DX7_number_c0.2.2.2.2.1, rfl⟩
theorem dX7_number_7 : Dc cX7_number 7 (.invokevirtual 118) 3 10 := ⟨DX7_number_c0.2.2.2.2.2.1, rfl⟩
theorem dX7_number_10 : Db cX7_number 10 (fun o => .ifCond .ne o) 13 16 := ⟨6, DX7_number_c0.2.2.2.2.2.2.1, rfl, rfl⟩
theorem dX7_number_13 : Dc cX7_number 13 (.bipush (-5)) 2 15 := ⟨DX7_number_c0.2.2.2.2.2.2.2.1, rfl⟩
theorem dX7_number_15 : Dc cX7_number 15 (.ireturn) 1 16 := ⟨DX7_number_c0.2.2.2.2.2.2.2.2.1, rfl⟩
theorem dX7_number_16 : Dc cX7_number 16 (.aload_n 0) 1 17 := ⟨DX7_number_c0.2.2.2.2.2.2.2.2.2.1, rfl⟩
theorem dX7_number_17 : Dc cX7_number 17 (.getfield 22) 3 20 := ⟨DX7_number_c0.2.2.2.2.2.2.2.2.2.2.1, rfl⟩
theorem dX7_number_20 : Dc cX7_number 20 (.aload_n 0) 1 21 := ⟨DX7_number_c0.2.2.2.2.2.2.2.2.2.2.2.1, rfl⟩
theorem dX7_number_21 : Dc cX7_number 21 (.getfield 115) 3 24 := ⟨DX7_number_c0.2.2.2.2.2.2.2.2.2.2.2.2.1, rfl⟩
theorem dX7_number_24 : Dc cX7_number 24 (.iaload) 1 25 := ⟨DX7_number_c0.2.2.2.2.2.2.2.2.2.2.2.2.2.1, rfl⟩
theorem dX7_number_25 : Dc cX7_number 25 (.bipush 48) 2 27 := ⟨DX7_number_c0.2.2.2.2.2.2.2.2.2.2.2.2.2.2.1, rfl⟩
theorem dX7_number_27 : Dc cX7_number 27 (.isub) 1 28 := ⟨DX7_number_c0.2.2.2.2.2.2.2.2.2.2.2.2.2.2.2, rfl⟩
theorem DX7_number_c1 : decode cX7_number 28 = .ok (.istore_n 3, 1) ∧ decode cX7_number 29 = .ok (.aload_n 0, 1) ∧ decode cX7_number 30 = .ok (.dup, 1) ∧ decode cX7_number 31 = .ok (.getfield 115, 3) ∧ decode cX7_number 34 = .ok (.iconst 1, 1) ∧ decode cX7_number 35 = .ok (.iadd, 1) ∧ decode cX7_number 36 = .ok (.putfield 115, 3) ∧ decode cX7_number 39 = .ok (.iload_n 3, 1) ∧ decode cX7_number 40 = .ok (.ifCond .le 66, 3) ∧ decode cX7_number 43 = .ok (.aload_n 0, 1) ∧ decode cX7_number 44 = .ok (.bipush 48, 2) ∧ decode cX7_number 46 = .ok (.bipush 57, 2) ∧ decode cX7_number 48 = .ok (.invokevirtual 118, 3) ∧ decode cX7_number 51 = .ok (.ifCond .eq 55, 3) ∧ decode cX7_number 54 = .ok (.bipush 10, 2) ∧ decode cX7_number 56 = .ok (.iload_n 3, 1) := by decide +kernel
theorem dX7_number_28 : Dc cX7_number 28 (.istore_n 3) 1 29 := ⟨DX7_number_c1.1, rfl⟩
theorem dX7_number_29 : Dc cX7_number 29 (.aload_n 0) 1 30 := ⟨DX7_number_c1.2.1, rfl⟩
theorem dX7_number_30 : Dc cX7_number 30 (.dup) 1 31 := ⟨DX7_number_c1.2.2.1, rfl⟩
theorem dX7_number_31 : Dc cX7_number 31 (.getfield 115) 3 34 := ⟨DX7_number_c1.2.2.2.1, rfl⟩
theorem dX7_number_34 : Dc cX7_number 34 (.iconst 1) 1 35 := ⟨DX7_number_c1.2.2.2.2.1, rfl⟩
theorem dX7_number_35 : Dc cX7_number 35 (.iadd) 1 36 := ⟨DX7_number_c1.2.2.2.2.2.1, rfl⟩
theorem dX7_number_36 : Dc cX7_number 36 (.putfield 115) 3 39 := ⟨DX7_number_c1.2.2.2.2.2.2.1, rfl⟩
theorem dX7_number_39 : Dc cX7_number 39 (.iload_n 3) 1 40 := ⟨DX7_number_c1.2.2.2.2.2.2.2.1, rfl⟩
theorem dX7_number_40 : Db cX7_number 40 (fun o => .ifCond .le o) 43 106 := ⟨66, DX7_number_c1.2.2.2.2.2.2.2.2.1, rfl, rfl⟩
theorem dX7_number_43 : Dc cX7_number 43 (.aload_n 0) 1 44 := ⟨DX7_number_c1.2.2.2.2.2.2.2.2.2.1, rfl⟩
theorem dX7_number_44 : Dc cX7_number 44 (.bipush 48) 2 46 := ⟨DX7_number_c1.2.2.2.2.2.2.2.2.2.2.1, rfl⟩
theorem dX7_number_46 : Dc cX7_number 46 (.bipush 57) 2 48 := ⟨DX7_number_c1.2.2.2.2.2.2.2.2.2.2.2.1, rfl⟩
theorem dX7_number_48 : Dc cX7_number 48 (.invokevirtual 118) 3 51 := ⟨DX7_number_c1.2.2.2.2.2.2.2.2.2.2.2.2.1, rfl⟩
theorem dX7_number_51 : Db cX7_number 51 (fun o => .ifCond .eq o) 54 106 := ⟨55, DX7_number_c1.2.2.2.2.2.2.2.2.2.2.2.2.2.1, rfl, rfl⟩
theorem dX7_number_54 : Dc cX7_number 54 (.bipush 10) 2 56 := ⟨DX7_number_c1.2.2.2.2.2.2.2.2.2.2.2.2.2.2.1, rfl⟩
theorem dX7_number_56 : Dc cX7_number 56 (.iload_n 3) 1 57 := ⟨DX7_number_c1.2.2.2.2.2.2.2.2.2.2.2.2.2.2.2, rfl⟩
theorem DX7_number_c2 : decode cX7_number 57 = .ok (.imul, 1) ∧ decode cX7_number 58 = .ok (.aload_n 0, 1) ∧ decode cX7_number 59 = .ok (.getfield 22, 3) ∧ decode cX7_number 62 = .ok (.aload_n 0, 1) ∧ decode cX7_number 63 = .ok (.getfield 115, 3) ∧ decode cX7_number 66 = .ok (.iaload, 1) ∧ decode cX7_number 67 = .ok (.iadd, 1) ∧ decode cX7_number 68 = .ok (.bipush 48, 2) ∧ decode cX7_number 70 = .ok (.isub, 1) ∧ decode cX7_number 71 = .ok (.iload_n 2, 1) ∧ decode cX7_number 72 = .ok (.if_icmp .gt 34, 3) ∧ decode cX7_number 75 = .ok (.bipush 10, 2) ∧ decode cX7_number 77 = .ok (.iload_n 3, 1) ∧ decode cX7_number 78 = .ok (.imul, 1) ∧ decode cX7_number 79 = .ok (.aload_n 0, 1) ∧ decode cX7_number 80 = .ok (.getfield 22, 3) := by decide +kernel
theorem dX7_number_57 : Dc cX7_number 57 (.imul) 1 58 := ⟨DX7_number_c2.1, rfl⟩
theorem dX7_number_58 : Dc cX7_number 58 (.aload_n 0) 1 59 := ⟨DX7_number_c2.2.1, rfl⟩
theorem dX7_number_59 : Dc cX7_number 59 (.getfield 22) 3 62 := ⟨DX7_number_c2.2.2.1, rfl⟩
theorem dX7_number_62 : Dc cX7_number 62 (.aload_n 0) 1 63 := ⟨DX7_number_c2.2.2.2.1, rfl⟩
theorem dX7_number_63 : Dc cX7_number 63 (.getfield 115) 3 66 := ⟨DX7_number_c2.2.2.2.2.1, rfl⟩
theorem dX7_number_66 : Dc cX7_number 66 (.iaload) 1 67 := ⟨DX7_number_c2.2.2.2.2.2.1, rfl⟩
theorem dX7_number_67 : Dc cX7_number 67 (.iadd) 1 68 := ⟨DX7_number_c2.2.2.2.2.2.2.1, rfl⟩
theorem dX7_number_68 : Dc cX7_number 68 (.bipush 48) 2 70 := ⟨DX7_number_c2.2.2.2.2.2.2.2.1, rfl⟩
theorem dX7_number_70 : Dc cX7_number 70 (.isub) 1 71 := ⟨DX7_number_c2.2.2.2.2.2.2.2.2.1, rfl⟩
theorem dX7_number_71 : Dc cX7_number 71 (.iload_n 2) 1 72 := ⟨DX7_number_c2.2.2.2.2.2.2.2.2.2.1, rfl⟩
theorem dX7_number_72 : Db cX7_number 72 (fun o => .if_icmp .gt o) 75 106 := ⟨34, DX7_number_c2.2.2.2.2.2.2.2.2.2.2.1, rfl, rfl⟩
theorem dX7_number_75 : Dc cX7_number 75 (.bipush 10) 2 77 := ⟨DX7_number_c2.2.2.2.2.2.2.2.2.2.2.2.1, rfl⟩
theorem dX7_number_77 : Dc cX7_number 77 (.iload_n 3) 1 78 := ⟨DX7_number_c2.2.2.2.2.2.2.2.2.2.2.2.2.1, rfl⟩
theorem dX7_number_78 : Dc cX7_number 78 (.imul) 1 79 := ⟨DX7_number_c2.2.2.2.2.2.2.2.2.2.2.2.2.2.1, rfl⟩
theorem dX7_number_79 : Dc cX7_number 79 (.aload_n 0) 1 80 := ⟨DX7_number_c2.2.2.2.2.2.2.2.2.2.2.2.2.2.2.1, rfl⟩
theorem dX7_number_80 : Dc cX7_number 80 (.getfield 22) 3 83 := ⟨DX7_number_c2.2.2.2.2.2.2.2.2.2.2.2.2.2.2.2, rfl⟩
theorem DX7_number_c3 : decode cX7_number 83 = .ok (.aload_n 0, 1) ∧ decode cX7_number 84 = .ok (.getfield 115, 3) ∧ decode cX7_number 87 = .ok (.iaload, 1) ∧ decode cX7_number 88 = .ok (.iadd, 1) ∧ decode cX7_number 89 = .ok (.bipush 48, 2) ∧ decode cX7_number 91 = .ok (.isub, 1) ∧ decode cX7_number 92 = .ok (.istore_n 3, 1) ∧ decode cX7_number 93 = .ok (.aload_n 0, 1) ∧ decode cX7_number 94 = .ok (.dup, 1) ∧ decode cX7_number 95 = .ok (.getfield 115, 3) ∧ decode cX7_number 98 = .ok (.iconst 1, 1) ∧ decode cX7_number 99 = .ok (.iadd, 1) ∧ decode cX7_number 100 = .ok (.putfield 115, 3) ∧ decode cX7_number 103 = .ok (.goto (-64), 3) ∧ decode cX7_number 106 = .ok (.iload_n 3, 1) ∧ decode cX7_number 107 = .ok (.ireturn, 1) := by decide +kernel
theorem dX7_number_83 : Dc cX7_number 83 (.aload_n 0) 1 84 := ⟨DX7_number_c3.1, rfl⟩
theorem dX7_number_84 : Dc cX7_number 84 (.getfield 115) 3 87 := ⟨DX7_number_c3.2.1, rfl⟩
theorem dX7_number_87 : Dc cX7_number 87 (.iaload) 1 88 := ⟨DX7_number_c3.2.2.1, rfl⟩
theorem dX7_number_88 : Dc cX7_number 88 (.iadd) 1 89 := ⟨DX7_number_c3.2.2.2.1, rfl⟩
theorem dX7_number_89 : Dc cX7_number 89 (.bipush 48) 2 91 := ⟨DX7_number_c3.2.2.2.2.1, rfl⟩
theorem dX7_number_91 : Dc cX7_number 91 (.isub) 1 92 := ⟨DX7_number_c3.2.2.2.2.2.1, rfl⟩
theorem dX7_number_92 : Dc cX7_number 92 (.istore_n 3) 1 93 := ⟨DX7_number_c3.2.2.2.2.2.2.1, rfl⟩
theorem dX7_number_93 : Dc cX7_number 93 (.aload_n 0) 1 94 := ⟨DX7_number_c3.2.2.2.2.2.2.2.1, rfl⟩
theorem dX7_number_94 : Dc cX7_number 94 (.dup) 1 95 := ⟨DX7_number_c3.2.2.2.2.2.2.2.2.1, rfl⟩
theorem dX7_number_95 : Dc cX7_number 95 (.getfield 115) 3 98 := ⟨DX7_number_c3.2.2.2.2.2.2.2.2.2.1, rfl⟩
theorem dX7_number_98 : Dc cX7_number 98 (.iconst 1) 1 99 := ⟨DX7_number_c3.2.2.2.2.2.2.2.2.2.2.1, rfl⟩
theorem dX7_number_99 : Dc cX7_number 99 (.iadd) 1 100 := ⟨DX7_number_c3.2.2.2.2.2.2.2.2.2.2.2.1, rfl⟩
theorem dX7_number_100 : Dc cX7_number 100 (.putfield 115) 3 103 := ⟨DX7_number_c3.2.2.2.2.2.2.2.2.2.2.2.2.1, rfl⟩
theorem dX7_number_103 : Db cX7_number 103 .goto 106 39 := ⟨-64, DX7_number_c3.2.2.2.2.2.2.2.2.2.2.2.2.2.1, rfl, rfl⟩
theorem dX7_number_106 : Dc cX7_number 106 (.iload_n 3) 1 107 := ⟨DX7_number_c3.2.2.2.2.2.2.2.2.2.2.2.2.2.2.1, rfl⟩
theorem dX7_number_107 : Dc cX7_number 107 (.ireturn) 1 108 := ⟨DX7_number_c3.2.2.2.2.2.2.2.2.2.2.2.2.2.2.2, rfl⟩
theorem DX7_verbBy_c0 : decode cX7_verbBy 0 = .ok (.iload_n 0, 1) ∧ decode cX7_verbBy 1 = .ok (.lookupswitch 71 #[(97, 63), (99, 65), (103, 59), (115, 67), (116, 69), (119, 61)], 59) ∧ decode cX7_verbBy 60 = .ok (.iconst 0, 1) ∧ decode cX7_verbBy 61 = .ok (.ireturn, 1) ∧ decode cX7_verbBy 62 = .ok (.iconst 1, 1) ∧ decode cX7_verbBy 63 = .ok (.ireturn, 1) ∧ decode cX7_verbBy 64 = .ok (.iconst 2, 1) ∧ decode cX7_verbBy 65 = .ok (.ireturn, 1) ∧ decode cX7_verbBy 66 = .ok (.iconst 3, 1) ∧ decode cX7_verbBy 67 = .ok (.ireturn, 1) ∧ decode cX7_verbBy 68 = .ok (.iconst 4, 1) ∧ decode cX7_verbBy 69 = .ok (.ireturn, 1) ∧ decode cX7_verbBy 70 = .ok (.iconst 5, 1) ∧ decode cX7_verbBy 71 = .ok (.ireturn, 1) ∧ decode cX7_verbBy 72 = .ok (.bipush (-5), 2) ∧ decode cX7_verbBy 74 = .ok (.ireturn, 1) := by decide +kernel
theorem dX7_verbBy_0 : Dc cX7_verbBy 0 (.iload_n 0) 1 1 := ⟨DX7_verbBy_c0.1, rfl⟩
theorem dX7_verbBy_1 : decode cX7_verbBy 1 = .ok (.lookupswitch 71 #[(97, 63), (99, 65), (103, 59), (115, 67), (116, 69), (119, 61)], 59) := DX7_verbBy_c0.2.1
theorem dX7_verbBy_60 : Dc cX7_verbBy 60 (.iconst 0) 1 61 := ⟨DX7_verbBy_c0.2.2.1, rfl⟩
theorem dX7_verbBy_61 : Dc cX7_verbBy 61 (.ireturn) 1 62 := ⟨DX7_verbBy_c0.2.2.2.1, rfl⟩
theorem dX7_verbBy_62 : Dc cX7_verbBy 62 (.iconst 1) 1 63 := ⟨DX7_verbBy_c0.2.2.2.2.1, rfl⟩
theorem dX7_verbBy_63 : Dc cX7_verbBy 63 (.ireturn) 1 64 := ⟨DX7_verbBy_c0.2.2.2.2.2.1, rfl⟩
theorem dX7_verbBy_64 : Dc cX7_verbBy 64 (.iconst 2) 1 65 := ⟨DX7_verbBy_c0.2.2.2.2.2.2.1, rfl⟩
theorem dX7_verbBy_65 : Dc cX7_verbBy 65 (.ireturn) 1 66 := ⟨DX7_verbBy_c0.2.2.2.2.2.2.2.1, rfl⟩
theorem dX7_verbBy_66 : Dc cX7_verbBy 66 (.iconst 3) 1 67 := ⟨DX7_verbBy_c0.2.2.2.2.2.2.2.2.1, rfl⟩
theorem dX7_verbBy_67 : Dc cX7_verbBy 67 (.ireturn) 1 68 := ⟨DX7_verbBy_c0.2.2.2.2.2.2.2.2.2.1, rfl⟩
theorem dX7_verbBy_68 : Dc cX7_verbBy 68 (.iconst 4) 1 69 := ⟨DX7_verbBy_c0.2.2.2.2.2.2.2.2.2.2.1, rfl⟩
theorem dX7_verbBy_69 : Dc cX7_verbBy 69 (.ireturn) 1 70 := ⟨DX7_verbBy_c0.2.2.2.2.2.2.2.2.2.2.2.1, rfl⟩
theorem dX7_verbBy_70 : Dc cX7_verbBy 70 (.iconst 5) 1 71 := ⟨DX7_verbBy_c0.2.2.2.2.2.2.2.2.2.2.2.2.1, rfl⟩
theorem dX7_verbBy_71 : Dc cX7_verbBy 71 (.ireturn) 1 72 := ⟨DX7_verbBy_c0.2.2.2.2.2.2.2.2.2.2.2.2.2.1, rfl⟩
theorem dX7_verbBy_72 : Dc cX7_verbBy 72 (.bipush (-5)) 2 74 := ⟨DX7_verbBy_c0.2.2.2.2.2.2.2.2.2.2.2.2.2.2.1, rfl⟩
theorem dX7_verbBy_74 : Dc cX7_verbBy 74 (.ireturn) 1 75 := ⟨DX7_verbBy_c0.2.2.2.2.2.2.2.2.2.2.2.2.2.2.2, rfl⟩
theorem DX7_readStep_c0 : decode cX7_readStep 0 = .ok (.aload_n 0, 1) ∧ decode cX7_readStep 1 = .ok (.getfield 115, 3) ∧ decode cX7_readStep 4 = .ok (.aload_n 0, 1) ∧ decode cX7_readStep 5 = .ok (.getfield 112, 3) ∧ decode cX7_readStep 8 = .ok (.if_icmp .ge 18, 3) ∧ decode cX7_readStep 11 = .ok (.aload_n 0, 1) ∧ decode cX7_readStep 12 = .ok (.getfield 22, 3) ∧ decode cX7_readStep 15 = .ok (.aload_n 0, 1) ∧ decode cX7_readStep 16 = .ok (.getfield 115, 3) ∧ decode cX7_readStep 19 = .ok (.iaload, 1) ∧ decode cX7_readStep 20 = .ok (.invokestatic 121, 3) ∧ decode cX7_readStep 23 = .ok (.goto 5, 3) ∧ decode cX7_readStep 26 = .ok (.bipush (-5), 2) ∧ decode cX7_readStep 28 = .ok (.istore_n 2, 1) ∧ decode cX7_readStep 29 = .ok (.iload_n 2, 1) ∧ decode cX7_readStep 30 = .ok (.bipush (-5), 2) := by decide +kernel
theorem dX7_readStep_0 : Dc cX7_readStep 0 (.aload_n 0) 1 1 := ⟨DX7_readStep_c0.1, rfl⟩
theorem dX7_readStep_1 : Dc cX7_readStep 1 (.getfield 115) 3 4 := ⟨DX7_readStep_c0.2.1, rfl⟩
theorem dX7_readStep_4 : Dc cX7_readStep 4 (.aload_n 0) 1 5 := ⟨DX7_readStep_c0.2.2.1, rfl⟩
theorem dX7_readStep_5 : Dc cX7_readStep 5 (.getfield 112) 3 8 := ⟨DX7_readStep_c0.2.2.2.1, rfl⟩
theorem dX7_readStep_8 : Db cX7_readStep 8 (fun o => .if_icmp .ge o) 11 26 := ⟨18, DX7_readStep_c0.2.2.2.2.1, rfl, rfl⟩
theorem dX7_readStep_11 : Dc cX7_readStep 11 (.aload_n 0) 1 12 := ⟨DX7_readStep_c0.2.2.2.2.2.1, rfl⟩
theorem dX7_readStep_12 : Dc cX7_readStep 12 (.getfield 22) 3 15 := ⟨DX7_readStep_c0.2.2.2.2.2.2.1, rfl⟩
theorem dX7_readStep_15 : Dc cX7_readStep 15 (.aload_n 0) 1 16 := ⟨DX7_readStep_c0.2.2.2.2.2.2.2.1, rfl⟩
theorem dX7_readStep_16 : Dc cX7_readStep 16 (.getfield 115) 3 19 := ⟨DX7_readStep_c0.2.2.2.2.2.2.2.2.1, rfl⟩
theorem dX7_readStep_19 : Dc cX7_readStep 19 (.iaload) 1 20 := ⟨DX7_readStep_c0.2.2.2.2.2.2.2.2.2.1, rfl⟩
theorem dX7_readStep_20 : Dc cX7_readStep 20 (.invokestatic 121) 3 23 := ⟨DX7_readStep_c0.2.2.2.2.2.2.2.2.2.2.1, rfl⟩
theorem dX7_readStep_23 : Db cX7_readStep 23 .goto 26 28 := ⟨5, DX7_readStep_c0.2.2.2.2.2.2.2.2.2.2.2.1, rfl, rfl⟩
theorem dX7_readStep_26 : Dc cX7_readStep 26 (.bipush (-5)) 2 28 := ⟨DX7_readStep_c0.2.2.2.2.2.2.2.2.2.2.2.2.1, rfl⟩
theorem dX7_readStep_28 : Dc cX7_readStep 28 (.istore_n 2) 1 29 := ⟨DX7_readStep_c0.2.2.2.2.2.2.2.2.2.2.2.2.2.1, rfl⟩
theorem dX7_readStep_29 : Dc cX7_readStep 29 (.iload_n 2) 1 30 := ⟨DX7_readStep_c0.2.2.2.2.2.2.2.2.2.2.2.2.2.2.1, rfl⟩
theorem dX7_readStep_30 : Dc cX7_readStep 30 (.bipush (-5)) 2 32 := ⟨DX7_readStep_c0.2.2.2.2.2.2.2.2.2.2.2.2.2.2.2, rfl⟩
theorem DX7_readStep_c1 : decode cX7_readStep 32 = .ok (.if_icmp .ne 5, 3) ∧ decode cX7_readStep 35 = .ok (.iconst 0, 1) ∧ decode cX7_readStep 36 = .ok (.ireturn, 1) ∧ decode cX7_readStep 37 = .ok (.aload_n 0, 1) ∧ decode cX7_readStep 38 = .ok (.dup, 1) ∧ decode cX7_readStep 39 = .ok (.getfield 115, 3) ∧ decode cX7_readStep 42 = .ok (.iconst 1, 1) ∧ decode cX7_readStep 43 = .ok (.iadd, 1) ∧ decode cX7_readStep 44 = .ok (.putfield 115, 3) ∧ decode cX7_readStep 47 = .ok (.aload_n 0, 1) ∧ decode cX7_readStep 48 = .ok (.iconst 0, 1) ∧ decode cX7_readStep 49 = .ok (.iload_n 2, 1) ∧ decode cX7_readStep 50 = .ok (.invokestatic 56, 3) ∧ decode cX7_readStep 53 = .ok (.invokevirtual 124, 3) ∧ decode cX7_readStep 56 = .ok (.istore_n 3, 1) ∧ decode cX7_readStep 57 = .ok (.iload_n 3, 1) := by decide +kernel
theorem dX7_readStep_32 : Db cX7_readStep 32 (fun o => .if_icmp .ne o) 35 37 := ⟨5, DX7_readStep_c1.1, rfl, rfl⟩
theorem dX7_readStep_35 : Dc cX7_readStep 35 (.iconst 0) 1 36 := ⟨DX7_readStep_c1.2.1, rfl⟩
theorem dX7_readStep_36 : Dc cX7_readStep 36 (.ireturn) 1 37 := ⟨DX7_readStep_c1.2.2.1, rfl⟩
theorem dX7_readStep_37 : Dc cX7_readStep 37 (.aload_n 0) 1 38 := ⟨DX7_readStep_c1.2.2.2.1, rfl⟩
theorem dX7_readStep_38 : Dc cX7_readStep 38 (.dup) 1 39 := ⟨DX7_readStep_c1.2.2.2.2.1, rfl⟩
theorem dX7_readStep_39 : Dc cX7_readStep 39 (.getfield 115) 3 42 := ⟨DX7_readStep_c1.2.2.2.2.2.1, rfl⟩
theorem dX7_readStep_42 : Dc cX7_readStep 42 (.iconst 1) 1 43 := ⟨DX7_readStep_c1.2.2.2.2.2.2.1, rfl⟩
theorem dX7_readStep_43 : Dc cX7_readStep 43 (.iadd) 1 44 := ⟨DX7_readStep_c1.2.2.2.2.2.2.2.1, rfl⟩
theorem dX7_readStep_44 : Dc cX7_readStep 44 (.putfield 115) 3 47 := ⟨DX7_readStep_c1.2.2.2.2.2.2.2.2.1, rfl⟩
theorem dX7_readStep_47 : Dc cX7_readStep 47 (.aload_n 0) 1 48 := ⟨DX7_readStep_c1.2.2.2.2.2.2.2.2.2.1, rfl⟩
theorem dX7_readStep_48 : Dc cX7_readStep 48 (.iconst 0) 1 49 := ⟨DX7_readStep_c1.2.2.2.2.2.2.2.2.2.2.1, rfl⟩
theorem dX7_readStep_49 : Dc cX7_readStep 49 (.iload_n 2) 1 50 := ⟨DX7_readStep_c1.2.2.2.2.2.2.2.2.2.2.2.1, rfl⟩
theorem dX7_readStep_50 : Dc cX7_readStep 50 (.invokestatic 56) 3 53 := ⟨DX7_readStep_c1.2.2.2.2.2.2.2.2.2.2.2.2.1, rfl⟩
theorem dX7_readStep_53 : Dc cX7_readStep 53 (.invokevirtual 124) 3 56 := ⟨DX7_readStep_c1.2.2.2.2.2.2.2.2.2.2.2.2.2.1, rfl⟩
theorem dX7_readStep_56 : Dc cX7_readStep 56 (.istore_n 3) 1 57 := ⟨DX7_readStep_c1.2.2.2.2.2.2.2.2.2.2.2.2.2.2.1, rfl⟩
theorem dX7_readStep_57 : Dc cX7_readStep 57 (.iload_n 3) 1 58 := ⟨DX7_readStep_c1.2.2.2.2.2.2.2.2.2.2.2.2.2.2.2, rfl⟩
theorem DX7_readStep_c2 : decode cX7_readStep 58 = .ok (.bipush (-5), 2) ∧ decode cX7_readStep 60 = .ok (.if_icmp .ne 5, 3) ∧ decode cX7_readStep 63 = .ok (.iconst 0, 1) ∧ decode cX7_readStep 64 = .ok (.ireturn, 1) ∧ decode cX7_readStep 65 = .ok (.iconst 0, 1) ∧ decode cX7_readStep 66 = .ok (.istore 4, 2) ∧ decode cX7_readStep 68 = .ok (.iload_n 1, 1) ∧ decode cX7_readStep 69 = .ok (.ifCond .eq 85, 3) ∧ decode cX7_readStep 72 = .ok (.aload_n 0, 1) ∧ decode cX7_readStep 73 = .ok (.bipush 43, 2) ∧ decode cX7_readStep 75 = .ok (.bipush 43, 2) ∧ decode cX7_readStep 77 = .ok (.invokevirtual 118, 3) ∧ decode cX7_readStep 80 = .ok (.ifCond .ne 14, 3) ∧ decode cX7_readStep 83 = .ok (.aload_n 0, 1) ∧ decode cX7_readStep 84 = .ok (.bipush 45, 2) ∧ decode cX7_readStep 86 = .ok (.bipush 45, 2) := by decide +kernel
theorem dX7_readStep_58 : Dc cX7_readStep 58 (.bipush (-5)) 2 60 := ⟨DX7_readStep_c2.1, rfl⟩
theorem dX7_readStep_60 : Db cX7_readStep 60 (fun o => .if_icmp .ne o) 63 65 := ⟨5, DX7_readStep_c2.2.1, rfl, rfl⟩
theorem dX7_readStep_63 : Dc cX7_readStep 63 (.iconst 0) 1 64 := ⟨DX7_readStep_c2.2.2.1, rfl⟩
theorem dX7_readStep_64 : Dc cX7_readStep 64 (.ireturn) 1 65 := ⟨DX7_readStep_c2.2.2.2.1, rfl⟩
theorem dX7_readStep_65 : Dc cX7_readStep 65 (.iconst 0) 1 66 := ⟨DX7_readStep_c2.2.2.2.2.1, rfl⟩
theorem dX7_readStep_66 : Dc cX7_readStep 66 (.istore 4) 2 68 := ⟨DX7_readStep_c2.2.2.2.2.2.1, rfl⟩
theorem dX7_readStep_68 : Dc cX7_readStep 68 (.iload_n 1) 1 69 := ⟨DX7_readStep_c2.2.2.2.2.2.2.1, rfl⟩
theorem dX7_readStep_69 : Db cX7_readStep 69 (fun o => .ifCond .eq o) 72 154 := ⟨85, DX7_readStep_c2.2.2.2.2.2.2.2.1, rfl, rfl⟩
theorem dX7_readStep_72 : Dc cX7_readStep 72 (.aload_n 0) 1 73 := ⟨DX7_readStep_c2.2.2.2.2.2.2.2.2.1, rfl⟩
theorem dX7_readStep_73 : Dc cX7_readStep 73 (.bipush 43) 2 75 := ⟨DX7_readStep_c2.2.2.2.2.2.2.2.2.2.1, rfl⟩
theorem dX7_readStep_75 : Dc cX7_readStep 75 (.bipush 43) 2 77 := ⟨DX7_readStep_c2.2.2.2.2.2.2.2.2.2.2.1, rfl⟩
theorem dX7_readStep_77 : Dc cX7_readStep 77 (.invokevirtual 118) 3 80 := ⟨DX7_readStep_c2.2.2.2.2.2.2.2.2.2.2.2.1, rfl⟩
theorem dX7_readStep_80 : Db cX7_readStep 80 (fun o => .ifCond .ne o) 83 94 := ⟨14, DX7_readStep_c2.2.2.2.2.2.2.2.2.2.2.2.2.1, rfl, rfl⟩
theorem dX7_readStep_83 : Dc cX7_readStep 83 (.aload_n 0) 1 84 := ⟨DX7_readStep_c2.2.2.2.2.2.2.2.2.2.2.2.2.2.1, rfl⟩
theorem dX7_readStep_84 : Dc cX7_readStep 84 (.bipush 45) 2 86 := ⟨DX7_readStep_c2.2.2.2.2.2.2.2.2.2.2.2.2.2.2.1, rfl⟩
theorem dX7_readStep_86 : Dc cX7_readStep 86 (.bipush 45) 2 88 := ⟨DX7_readStep_c2.2.2.2.2.2.2.2.2.2.2.2.2.2.2.2, rfl⟩
theorem DX7_readStep_c3 : decode cX7_readStep 88 = .ok (.invokevirtual 118, 3) ∧ decode cX7_readStep 91 = .ok (.ifCond .eq 63, 3) ∧ decode cX7_readStep 94 = .ok (.aload_n 0, 1) ∧ decode cX7_readStep 95 = .ok (.bipush 43, 2) ∧ decode cX7_readStep 97 = .ok (.invokevirtual 127, 3) ∧ decode cX7_readStep 100 = .ok (.ifCond .eq 7, 3) ∧ decode cX7_readStep 103 = .ok (.iconst 1, 1) ∧ decode cX7_readStep 104 = .ok (.goto 4, 3) ∧ decode cX7_readStep 107 = .ok (.iconst (-1), 1) ∧ decode cX7_readStep 108 = .ok (.istore 5, 2) ∧ decode cX7_readStep 110 = .ok (.aload_n 0, 1) ∧ decode cX7_readStep 111 = .ok (.dup, 1) ∧ decode cX7_readStep 112 = .ok (.getfield 115, 3) ∧ decode cX7_readStep 115 = .ok (.iload 5, 2) ∧ decode cX7_readStep 117 = .ok (.ifCond .ge 7, 3) ∧ decode cX7_readStep 120 = .ok (.iconst 1, 1) := by decide +kernel
theorem dX7_readStep_88 : Dc cX7_readStep 88 (.invokevirtual 118) 3 91 := ⟨DX7_readStep_c3.1, rfl⟩
theorem dX7_readStep_91 : Db cX7_readStep 91 (fun o => .ifCond .eq o) 94 154 := ⟨63, DX7_readStep_c3.2.1, rfl, rfl⟩
theorem dX7_readStep_94 : Dc cX7_readStep 94 (.aload_n 0) 1 95 := ⟨DX7_readStep_c3.2.2.1, rfl⟩
theorem dX7_readStep_95 : Dc cX7_readStep 95 (.bipush 43) 2 97 := ⟨DX7_readStep_c3.2.2.2.1, rfl⟩
theorem dX7_readStep_97 : Dc cX7_readStep 97 (.invokevirtual 127) 3 100 := ⟨DX7_readStep_c3.2.2.2.2.1, rfl⟩
theorem dX7_readStep_100 : Db cX7_readStep 100 (fun o => .ifCond .eq o) 103 107 := ⟨7, DX7_readStep_c3.2.2.2.2.2.1, rfl, rfl⟩
theorem dX7_readStep_103 : Dc cX7_readStep 103 (.iconst 1) 1 104 := ⟨DX7_readStep_c3.2.2.2.2.2.2.1, rfl⟩
theorem dX7_readStep_104 : Db cX7_readStep 104 .goto 107 108 := ⟨4, DX7_readStep_c3.2.2.2.2.2.2.2.1, rfl, rfl⟩
theorem dX7_readStep_107 : Dc cX7_readStep 107 (.iconst (-1)) 1 108 := ⟨DX7_readStep_c3.2.2.2.2.2.2.2.2.1, rfl⟩
theorem dX7_readStep_108 : Dc cX7_readStep 108 (.istore 5) 2 110 := ⟨DX7_readStep_c3.2.2.2.2.2.2.2.2.2.1, rfl⟩
theorem dX7_readStep_110 : Dc cX7_readStep 110 (.aload_n 0) 1 111 := ⟨DX7_readStep_c3.2.2.2.2.2.2.2.2.2.2.1, rfl⟩
theorem dX7_readStep_111 : Dc cX7_readStep 111 (.dup) 1 112 := ⟨DX7_readStep_c3.2.2.2.2.2.2.2.2.2.2.2.1, rfl⟩
theorem dX7_readStep_112 : Dc cX7_readStep 112 (.getfield 115) 3 115 := ⟨DX7_readStep_c3.2.2.2.2.2.2.2.2.2.2.2.2.1, rfl⟩
theorem dX7_readStep_115 : Dc cX7_readStep 115 (.iload 5) 2 117 := ⟨DX7_readStep_c3.2.2.2.2.2.2.2.2.2.2.2.2.2.1, rfl⟩
theorem dX7_readStep_117 : Db cX7_readStep 117 (fun o => .ifCond .ge o) 120 124 := ⟨7, DX7_readStep_c3.2.2.2.2.2.2.2.2.2.2.2.2.2.2.1, rfl, rfl⟩
theorem dX7_readStep_120 : Dc cX7_readStep 120 (.iconst 1) 1 121 := ⟨DX7_readStep_c3.2.2.2.2.2.2.2.2.2.2.2.2.2.2.2, rfl⟩
theorem DX7_readStep_c4 : decode cX7_readStep 121 = .ok (.goto 4, 3) ∧ decode cX7_readStep 124 = .ok (.iconst 0, 1) ∧ decode cX7_readStep 125 = .ok (.iadd, 1) ∧ decode cX7_readStep 126 = .ok (.putfield 115, 3) ∧ decode cX7_readStep 129 = .ok (.aload_n 0, 1) ∧ decode cX7_readStep 130 = .ok (.iconst 1, 1) ∧ decode cX7_readStep 131 = .ok (.bipush 99, 2) ∧ decode cX7_readStep 133 = .ok (.invokevirtual 124, 3) ∧ decode cX7_readStep 136 = .ok (.istore 4, 2) ∧ decode cX7_readStep 138 = .ok (.iload 4, 2) ∧ decode cX7_readStep 140 = .ok (.bipush (-5), 2) ∧ decode cX7_readStep 142 = .ok (.if_icmp .ne 5, 3) ∧ decode cX7_readStep 145 = .ok (.iconst 0, 1) ∧ decode cX7_readStep 146 = .ok (.ireturn, 1) ∧ decode cX7_readStep 147 = .ok (.iload 4, 2) ∧ decode cX7_readStep 149 = .ok (.iload 5, 2) := by decide +kernel
theorem dX7_readStep_121 : Db cX7_readStep 121 .goto 124 125 := ⟨4, DX7_readStep_c4.1, rfl, rfl⟩
theorem dX7_readStep_124 : Dc cX7_readStep 124 (.iconst 0) 1 125 := ⟨DX7_readStep_c4.2.1, rfl⟩
theorem dX7_readStep_125 : Dc cX7_readStep 125 (.iadd) 1 126 := ⟨DX7_readStep_c4.2.2.1, rfl⟩
theorem dX7_readStep_126 : Dc cX7_readStep 126 (.putfield 115) 3 129 := ⟨DX7_readStep_c4.2.2.2.1, rfl⟩
theorem dX7_readStep_129 : Dc cX7_readStep 129 (.aload_n 0) 1 130 := ⟨DX7_readStep_c4.2.2.2.2.1, rfl⟩
theorem dX7_readStep_130 : Dc cX7_readStep 130 (.iconst 1) 1 131 := ⟨DX7_readStep_c4.2.2.2.2.2.1, rfl⟩
theorem dX7_readStep_131 : Dc cX7_readStep 131 (.bipush 99) 2 133 := ⟨DX7_readStep_c4.2.2.2.2.2.2.1, rfl⟩
theorem dX7_readStep_133 : Dc cX7_readStep 133 (.invokevirtual 124) 3 136 := ⟨DX7_readStep_c4.2.2.2.2.2.2.2.1, rfl⟩
theorem dX7_readStep_136 : Dc cX7_readStep 136 (.istore 4) 2 138 := ⟨DX7_readStep_c4.2.2.2.2.2.2.2.2.1, rfl⟩
theorem dX7_readStep_138 : Dc cX7_readStep 138 (.iload 4) 2 140 := ⟨DX7_readStep_c4.2.2.2.2.2.2.2.2.2.1, rfl⟩
theorem dX7_readStep_140 : Dc cX7_readStep 140 (.bipush (-5)) 2 142 := ⟨DX7_readStep_c4.2.2.2.2.2.2.2.2.2.2.1, rfl⟩
theorem dX7_readStep_142 : Db cX7_readStep 142 (fun o => .if_icmp .ne o) 145 147 := ⟨5, DX7_readStep_c4.2.2.2.2.2.2.2.2.2.2.2.1, rfl, rfl⟩
theorem dX7_readStep_145 : Dc cX7_readStep 145 (.iconst 0) 1 146 := ⟨DX7_readStep_c4.2.2.2.2.2.2.2.2.2.2.2.2.1, rfl⟩
theorem dX7_readStep_146 : Dc cX7_readStep 146 (.ireturn) 1 147 := ⟨DX7_readStep_c4.2.2.2.2.2.2.2.2.2.2.2.2.2.1, rfl⟩
theorem dX7_readStep_147 : Dc cX7_readStep 147 (.iload 4) 2 149 := ⟨DX7_readStep_c4.2.2.2.2.2.2.2.2.2.2.2.2.2.2.1, rfl⟩
theorem dX7_readStep_149 : Dc cX7_readStep 149 (.iload 5) 2 151 := ⟨DX7_readStep_c4.2.2.2.2.2.2.2.2.2.2.2.2.2.2.2, rfl⟩
theorem DX7_readStep_c5 : decode cX7_readStep 151 = .ok (.imul, 1) ∧ decode cX7_readStep 152 = .ok (.istore 4, 2) ∧ decode cX7_readStep 154 = .ok (.aload_n 0, 1) ∧ decode cX7_readStep 155 = .ok (.getfield 25, 3) ∧ decode cX7_readStep 158 = .ok (.aload_n 0, 1) ∧ decode cX7_readStep 159 = .ok (.getfield 95, 3) ∧ decode cX7_readStep 162 = .ok (.iload_n 2, 1) ∧ decode cX7_readStep 163 = .ok (.iastore, 1) ∧ decode cX7_readStep 164 = .ok (.aload_n 0, 1) ∧ decode cX7_readStep 165 = .ok (.getfield 28, 3) ∧ decode cX7_readStep 168 = .ok (.aload_n 0, 1) ∧ decode cX7_readStep 169 = .ok (.getfield 95, 3) ∧ decode cX7_readStep 172 = .ok (.iload_n 3, 1) ∧ decode cX7_readStep 173 = .ok (.iastore, 1) ∧ decode cX7_readStep 174 = .ok (.aload_n 0, 1) ∧ decode cX7_readStep 175 = .ok (.getfield 31, 3) := by decide +kernel
theorem dX7_readStep_151 : Dc cX7_readStep 151 (.imul) 1 152 := ⟨DX7_readStep_c5.1, rfl⟩
theorem dX7_readStep_152 : Dc cX7_readStep 152 (.istore 4) 2 154 := ⟨DX7_readStep_c5.2.1, rfl⟩
theorem dX7_readStep_154 : Dc cX7_readStep 154 (.aload_n 0) 1 155 := ⟨DX7_readStep_c5.2.2.1, rfl⟩
theorem dX7_readStep_155 : Dc cX7_readStep 155 (.getfield 25) 3 158 := ⟨DX7_readStep_c5.2.2.2.1, rfl⟩
theorem dX7_readStep_158 : Dc cX7_readStep 158 (.aload_n 0) 1 159 := ⟨DX7_readStep_c5.2.2.2.2.1, rfl⟩
theorem dX7_readStep_159 : Dc cX7_readStep 159 (.getfield 95) 3 162 := ⟨DX7_readStep_c5.2.2.2.2.2.1, rfl⟩
theorem dX7_readStep_162 : Dc cX7_readStep 162 (.iload_n 2) 1 163 := ⟨DX7_readStep_c5.2.2.2.2.2.2.1, rfl⟩
theorem dX7_readStep_163 : Dc cX7_readStep 163 (.iastore) 1 164 := ⟨DX7_readStep_c5.2.2.2.2.2.2.2.1, rfl⟩
theorem dX7_readStep_164 : Dc cX7_readStep 164 (.aload_n 0) 1 165 := ⟨DX7_readStep_c5.2.2.2.2.2.2.2.2.1, rfl⟩
theorem dX7_readStep_165 : Dc cX7_readStep 165 (.getfield 28) 3 168 := ⟨DX7_readStep_c5.2.2.2.2.2.2.2.2.2.1, rfl⟩
theorem dX7_readStep_168 : Dc cX7_readStep 168 (.aload_n 0) 1 169 := ⟨DX7_readStep_c5.2.2.2.2.2.2.2.2.2.2.1, rfl⟩
theorem dX7_readStep_169 : Dc cX7_readStep 169 (.getfield 95) 3 172 := ⟨DX7_readStep_c5.2.2.2.2.2.2.2.2.2.2.2.1, rfl⟩
theorem dX7_readStep_172 : Dc cX7_readStep 172 (.iload_n 3) 1 173 := ⟨DX7_readStep_c5.2.2.2.2.2.2.2.2.2.2.2.2.1, rfl⟩
theorem dX7_readStep_173 : Dc cX7_readStep 173 (.iastore) 1 174 := ⟨DX7_readStep_c5.2.2.2.2.2.2.2.2.2.2.2.2.2.1, rfl⟩
theorem dX7_readStep_174 : Dc cX7_readStep 174 (.aload_n 0) 1 175 := ⟨DX7_readStep_c5.2.2.2.2.2.2.2.2.2.2.2.2.2.2.1, rfl⟩
theorem dX7_readStep_175 : Dc cX7_readStep 175 (.getfield 31) 3 178 := ⟨DX7_readStep_c5.2.2.2.2.2.2.2.2.2.2.2.2.2.2.2, rfl⟩
theorem DX7_readStep_c6 : decode cX7_readStep 178 = .ok (.aload_n 0, 1) ∧ decode cX7_readStep 179 = .ok (.getfield 95, 3) ∧ decode cX7_readStep 182 = .ok (.iload 4, 2) ∧ decode cX7_readStep 184 = .ok (.iastore, 1) ∧ decode cX7_readStep 185 = .ok (.aload_n 0, 1) ∧ decode cX7_readStep 186 = .ok (.dup, 1) ∧ decode cX7_readStep 187 = .ok (.getfield 95, 3) ∧ decode cX7_readStep 190 = .ok (.iconst 1, 1) ∧ decode cX7_readStep 191 = .ok (.iadd, 1) ∧ decode cX7_readStep 192 = .ok (.putfield 95, 3) ∧ decode cX7_readStep 195 = .ok (.iconst 1, 1) ∧ decode cX7_readStep 196 = .ok (.ireturn, 1) := by decide +kernel
theorem dX7_readStep_178 : Dc cX7_readStep 178 (.aload_n 0) 1 179 := ⟨DX7_readStep_c6.1, rfl⟩
theorem dX7_readStep_179 : Dc cX7_readStep 179 (.getfield 95) 3 182 := ⟨DX7_readStep_c6.2.1, rfl⟩
theorem dX7_readStep_182 : Dc cX7_readStep 182 (.iload 4) 2 184 := ⟨DX7_readStep_c6.2.2.1, rfl⟩
theorem dX7_readStep_184 : Dc cX7_readStep 184 (.iastore) 1 185 := ⟨DX7_readStep_c6.2.2.2.1, rfl⟩
theorem dX7_readStep_185 : Dc cX7_readStep 185 (.aload_n 0) 1 186 := ⟨DX7_readStep_c6.2.2.2.2.1, rfl⟩
theorem dX7_readStep_186 : Dc cX7_readStep 186 (.dup) 1 187 := ⟨DX7_readStep_c6.2.2.2.2.2.1, rfl⟩
theorem dX7_readStep_187 : Dc cX7_readStep 187 (.getfield 95) 3 190 := ⟨DX7_readStep_c6.2.2.2.2.2.2.1, rfl⟩
theorem dX7_readStep_190 : Dc cX7_readStep 190 (.iconst 1) 1 191 := ⟨DX7_readStep_c6.2.2.2.2.2.2.2.1, rfl⟩
theorem dX7_readStep_191 : Dc cX7_readStep 191 (.iadd) 1 192 := ⟨DX7_readStep_c6.2.2.2.2.2.2.2.2.1, rfl⟩
theorem dX7_readStep_192 : Dc cX7_readStep 192 (.putfield 95) 3 195 := ⟨DX7_readStep_c6.2.2.2.2.2.2.2.2.2.1, rfl⟩
theorem dX7_readStep_195 : Dc cX7_readStep 195 (.iconst 1) 1 196 := ⟨DX7_readStep_c6.2.2.2.2.2.2.2.2.2.2.1, rfl⟩
theorem dX7_readStep_196 : Dc cX7_readStep 196 (.ireturn) 1 197 := ⟨DX7_readStep_c6.2.2.2.2.2.2.2.2.2.2.2, rfl⟩
theorem DX7_readItem_c0 : decode cX7_readItem 0 = .ok (.aload_n 0, 1) ∧ decode cX7_readItem 1 = .ok (.iconst 0, 1) ∧ decode cX7_readItem 2 = .ok (.putfield 95, 3) ∧ decode cX7_readItem 5 = .ok (.aload_n 0, 1) ∧ decode cX7_readItem 6 = .ok (.bipush 49, 2) ∧ decode cX7_readItem 8 = .ok (.bipush 57, 2) ∧ decode cX7_readItem 10 = .ok (.invokevirtual 118, 3) ∧ decode cX7_readItem 13 = .ok (.ifCond .ne 18, 3) ∧ decode cX7_readItem 16 = .ok (.aload_n 0, 1) ∧ decode cX7_readItem 17 = .ok (.iconst 0, 1) ∧ decode cX7_readItem 18 = .ok (.invokevirtual 130, 3) ∧ decode cX7_readItem 21 = .ok (.ifCond .eq 7, 3) ∧ decode cX7_readItem 24 = .ok (.iconst 0, 1) ∧ decode cX7_readItem 25 = .ok (.goto 5, 3) ∧ decode cX7_readItem 28 = .ok (.bipush (-5), 2) ∧ decode cX7_readItem 30 = .ok (.ireturn, 1) := by decide +kernel
theorem dX7_readItem_0 : Dc cX7_readItem 0 (.aload_n 0) 1 1 := ⟨DX7_readItem_c0.1, rfl⟩
theorem dX7_readItem_1 : Dc cX7_readItem 1 (.iconst 0) 1 2 := ⟨DX7_readItem_c0.2.1, rfl⟩
theorem dX7_readItem_2 : Dc cX7_readItem 2 (.putfield 95) 3 5 := ⟨DX7_readItem_c0.2.2.1, rfl⟩
theorem dX7_readItem_5 : Dc cX7_readItem 5 (.aload_n 0) 1 6 := ⟨DX7_readItem_c0.2.2.2.1, rfl⟩
theorem dX7_readItem_6 : Dc cX7_readItem 6 (.bipush 49) 2 8 := ⟨DX7_readItem_c0.2.2.2.2.1, rfl⟩
theorem dX7_readItem_8 : Dc cX7_readItem 8 (.bipush 57) 2 10 := ⟨DX7_readItem_c0.2.2.2.2.2.1, rfl⟩
theorem dX7_readItem_10 : Dc cX7_readItem 10 (.invokevirtual 118) 3 13 := ⟨DX7_readItem_c0.2.2.2.2.2.2.1, rfl⟩
theorem dX7_readItem_13 : Db cX7_readItem 13 (fun o => .ifCond .ne o) 16 31 := ⟨18, DX7_readItem_c0.2.2.2.2.2.2.2.1, rfl, rfl⟩
theorem dX7_readItem_16 : Dc cX7_readItem 16 (.aload_n 0) 1 17 := ⟨DX7_readItem_c0.2.2.2.2.2.2.2.2.1, rfl⟩
theorem dX7_readItem_17 : Dc cX7_readItem 17 (.iconst 0) 1 18 := ⟨DX7_readItem_c0.2.2.2.2.2.2.2.2.2.1, rfl⟩
theorem dX7_readItem_18 : Dc cX7_readItem 18 (.invokevirtual 130) 3 21 := ⟨DX7_readItem_c0.2.2.2.2.2.2.2.2.2.2.1, rfl⟩
theorem dX7_readItem_21 : Db cX7_readItem 21 (fun o => .ifCond .eq o) 24 28 := ⟨7, DX7_readItem_c0.2.2.2.2.2.2.2.2.2.2.2.1, rfl, rfl⟩
theorem dX7_readItem_24 : Dc cX7_readItem 24 (.iconst 0) 1 25 := ⟨DX7_readItem_c0.2.2.2.2.2.2.2.2.2.2.2.2.1, rfl⟩
theorem dX7_readItem_25 : Db cX7_readItem 25 .goto 28 30 := ⟨5, DX7_readItem_c0.2.2.2.2.2.2.2.2.2.2.2.2.2.1, rfl, rfl⟩
theorem dX7_readItem_28 : Dc cX7_readItem 28 (.bipush (-5)) 2 30 := ⟨DX7_readItem_c0.2.2.2.2.2.2.2.2.2.2.2.2.2.2.1, rfl⟩
theorem dX7_readItem_30 : Dc cX7_readItem 30 (.ireturn) 1 31 := ⟨DX7_readItem_c0.2.2.2.2.2.2.2.2.2.2.2.2.2.2.2, rfl⟩
theorem DX7_readItem_c1 : decode cX7_readItem 31 = .ok (.aload_n 0, 1) ∧ decode cX7_readItem 32 = .ok (.iconst 1, 1) ∧ decode cX7_readItem 33 = .ok (.bipush 99, 2) ∧ decode cX7_readItem 35 = .ok (.invokevirtual 124, 3) ∧ decode cX7_readItem 38 = .ok (.istore_n 1, 1) ∧ decode cX7_readItem 39 = .ok (.iload_n 1, 1) ∧ decode cX7_readItem 40 = .ok (.iconst 1, 1) ∧ decode cX7_readItem 41 = .ok (.if_icmp .eq 20, 3) ∧ decode cX7_readItem 44 = .ok (.aload_n 0, 1) ∧ decode cX7_readItem 45 = .ok (.bipush 40, 2) ∧ decode cX7_readItem 47 = .ok (.invokevirtual 127, 3) ∧ decode cX7_readItem 50 = .ok (.ifCond .eq 11, 3) ∧ decode cX7_readItem 53 = .ok (.aload_n 0, 1) ∧ decode cX7_readItem 54 = .ok (.iconst 1, 1) ∧ decode cX7_readItem 55 = .ok (.invokevirtual 130, 3) ∧ decode cX7_readItem 58 = .ok (.ifCond .ne 6, 3) := by decide +kernel
theorem dX7_readItem_31 : Dc cX7_readItem 31 (.aload_n 0) 1 32 := ⟨DX7_readItem_c1.1, rfl⟩
theorem dX7_readItem_32 : Dc cX7_readItem 32 (.iconst 1) 1 33 := ⟨DX7_readItem_c1.2.1, rfl⟩
theorem dX7_readItem_33 : Dc cX7_readItem 33 (.bipush 99) 2 35 := ⟨DX7_readItem_c1.2.2.1, rfl⟩
theorem dX7_readItem_35 : Dc cX7_readItem 35 (.invokevirtual 124) 3 38 := ⟨DX7_readItem_c1.2.2.2.1, rfl⟩
theorem dX7_readItem_38 : Dc cX7_readItem 38 (.istore_n 1) 1 39 := ⟨DX7_readItem_c1.2.2.2.2.1, rfl⟩
theorem dX7_readItem_39 : Dc cX7_readItem 39 (.iload_n 1) 1 40 := ⟨DX7_readItem_c1.2.2.2.2.2.1, rfl⟩
theorem dX7_readItem_40 : Dc cX7_readItem 40 (.iconst 1) 1 41 := ⟨DX7_readItem_c1.2.2.2.2.2.2.1, rfl⟩
theorem dX7_readItem_41 : Db cX7_readItem 41 (fun o => .if_icmp .eq o) 44 61 := ⟨20, DX7_readItem_c1.2.2.2.2.2.2.2.1, rfl, rfl⟩
theorem dX7_readItem_44 : Dc cX7_readItem 44 (.aload_n 0) 1 45 := ⟨DX7_readItem_c1.2.2.2.2.2.2.2.2.1, rfl⟩
theorem dX7_readItem_45 : Dc cX7_readItem 45 (.bipush 40) 2 47 := ⟨DX7_readItem_c1.2.2.2.2.2.2.2.2.2.1, rfl⟩
theorem dX7_readItem_47 : Dc cX7_readItem 47 (.invokevirtual 127) 3 50 := ⟨DX7_readItem_c1.2.2.2.2.2.2.2.2.2.2.1, rfl⟩
theorem dX7_readItem_50 : Db cX7_readItem 50 (fun o => .ifCond .eq o) 53 61 := ⟨11, DX7_readItem_c1.2.2.2.2.2.2.2.2.2.2.2.1, rfl, rfl⟩
theorem dX7_readItem_53 : Dc cX7_readItem 53 (.aload_n 0) 1 54 := ⟨DX7_readItem_c1.2.2.2.2.2.2.2.2.2.2.2.2.1, rfl⟩
theorem dX7_readItem_54 : Dc cX7_readItem 54 (.iconst 1) 1 55 := ⟨DX7_readItem_c1.2.2.2.2.2.2.2.2.2.2.2.2.2.1, rfl⟩
theorem dX7_readItem_55 : Dc cX7_readItem 55 (.invokevirtual 130) 3 58 := ⟨DX7_readItem_c1.2.2.2.2.2.2.2.2.2.2.2.2.2.2.1, rfl⟩
theorem dX7_readItem_58 : Db cX7_readItem 58 (fun o => .ifCond .ne o) 61 64 := ⟨6, DX7_readItem_c1.2.2.2.2.2.2.2.2.2.2.2.2.2.2.2, rfl, rfl⟩
theorem DX7_readItem_c2 : decode cX7_readItem 61 = .ok (.bipush (-5), 2) ∧ decode cX7_readItem 63 = .ok (.ireturn, 1) ∧ decode cX7_readItem 64 = .ok (.aload_n 0, 1) ∧ decode cX7_readItem 65 = .ok (.bipush 44, 2) ∧ decode cX7_readItem 67 = .ok (.invokevirtual 127, 3) ∧ decode cX7_readItem 70 = .ok (.ifCond .eq 14, 3) ∧ decode cX7_readItem 73 = .ok (.aload_n 0, 1) ∧ decode cX7_readItem 74 = .ok (.iconst 1, 1) ∧ decode cX7_readItem 75 = .ok (.invokevirtual 130, 3) ∧ decode cX7_readItem 78 = .ok (.ifCond .ne (-14), 3) ∧ decode cX7_readItem 81 = .ok (.bipush (-5), 2) ∧ decode cX7_readItem 83 = .ok (.ireturn, 1) ∧ decode cX7_readItem 84 = .ok (.aload_n 0, 1) ∧ decode cX7_readItem 85 = .ok (.bipush 41, 2) ∧ decode cX7_readItem 87 = .ok (.invokevirtual 127, 3) ∧ decode cX7_readItem 90 = .ok (.ifCond .eq 7, 3) := by decide +kernel
theorem dX7_readItem_61 : Dc cX7_readItem 61 (.bipush (-5)) 2 63 := ⟨DX7_readItem_c2.1, rfl⟩
theorem dX7_readItem_63 : Dc cX7_readItem 63 (.ireturn) 1 64 := ⟨DX7_readItem_c2.2.1, rfl⟩
theorem dX7_readItem_64 : Dc cX7_readItem 64 (.aload_n 0) 1 65 := ⟨DX7_readItem_c2.2.2.1, rfl⟩
theorem dX7_readItem_65 : Dc cX7_readItem 65 (.bipush 44) 2 67 := ⟨DX7_readItem_c2.2.2.2.1, rfl⟩
theorem dX7_readItem_67 : Dc cX7_readItem 67 (.invokevirtual 127) 3 70 := ⟨DX7_readItem_c2.2.2.2.2.1, rfl⟩
theorem dX7_readItem_70 : Db cX7_readItem 70 (fun o => .ifCond .eq o) 73 84 := ⟨14, DX7_readItem_c2.2.2.2.2.2.1, rfl, rfl⟩
theorem dX7_readItem_73 : Dc cX7_readItem 73 (.aload_n 0) 1 74 := ⟨DX7_readItem_c2.2.2.2.2.2.2.1, rfl⟩
theorem dX7_readItem_74 : Dc cX7_readItem 74 (.iconst 1) 1 75 := ⟨DX7_readItem_c2.2.2.2.2.2.2.2.1, rfl⟩
theorem dX7_readItem_75 : Dc cX7_readItem 75 (.invokevirtual 130) 3 78 := ⟨DX7_readItem_c2.2.2.2.2.2.2.2.2.1, rfl⟩
theorem dX7_readItem_78 : Db cX7_readItem 78 (fun o => .ifCond .ne o) 81 64 := ⟨-14, DX7_readItem_c2.2.2.2.2.2.2.2.2.2.1, rfl, rfl⟩
theorem dX7_readItem_81 : Dc cX7_readItem 81 (.bipush (-5)) 2 83 := ⟨DX7_readItem_c2.2.2.2.2.2.2.2.2.2.2.1, rfl⟩
theorem dX7_readItem_83 : Dc cX7_readItem 83 (.ireturn) 1 84 := ⟨DX7_readItem_c2.2.2.2.2.2.2.2.2.2.2.2.1, rfl⟩
theorem dX7_readItem_84 : Dc cX7_readItem 84 (.aload_n 0) 1 85 := ⟨DX7_readItem_c2.2.2.2.2.2.2.2.2.2.2.2.2.1, rfl⟩
theorem dX7_readItem_85 : Dc cX7_readItem 85 (.bipush 41) 2 87 := ⟨DX7_readItem_c2.2.2.2.2.2.2.2.2.2.2.2.2.2.1, rfl⟩
theorem dX7_readItem_87 : Dc cX7_readItem 87 (.invokevirtual 127) 3 90 := ⟨DX7_readItem_c2.2.2.2.2.2.2.2.2.2.2.2.2.2.2.1, rfl⟩
theorem dX7_readItem_90 : Db cX7_readItem 90 (fun o => .ifCond .eq o) 93 97 := ⟨7, DX7_readItem_c2.2.2.2.2.2.2.2.2.2.2.2.2.2.2.2, rfl, rfl⟩
theorem DX7_readItem_c3 : decode cX7_readItem 93 = .ok (.iload_n 1, 1) ∧ decode cX7_readItem 94 = .ok (.goto 5, 3) ∧ decode cX7_readItem 97 = .ok (.bipush (-5), 2) ∧ decode cX7_readItem 99 = .ok (.ireturn, 1) := by decide +kernel
theorem dX7_readItem_93 : Dc cX7_readItem 93 (.iload_n 1) 1 94 := ⟨DX7_readItem_c3.1, rfl⟩
theorem dX7_readItem_94 : Db cX7_readItem 94 .goto 97 99 := ⟨5, DX7_readItem_c3.2.1, rfl, rfl⟩
theorem dX7_readItem_97 : Dc cX7_readItem 97 (.bipush (-5)) 2 99 := ⟨DX7_readItem_c3.2.2.1, rfl⟩
theorem dX7_readItem_99 : Dc cX7_readItem 99 (.ireturn) 1 100 := ⟨DX7_readItem_c3.2.2.2, rfl⟩
theorem DX7_readText_c0 : decode cX7_readText 0 = .ok (.aload_n 0, 1) ∧ decode cX7_readText 1 = .ok (.iconst 0, 1) ∧ decode cX7_readText 2 = .ok (.putfield 115, 3) ∧ decode cX7_readText 5 = .ok (.iconst 1, 1) ∧ decode cX7_readText 6 = .ok (.istore_n 2, 1) ∧ decode cX7_readText 7 = .ok (.iload_n 2, 1) ∧ decode cX7_readText 8 = .ok (.ifCond .eq 63, 3) ∧ decode cX7_readText 11 = .ok (.aload_n 0, 1) ∧ decode cX7_readText 12 = .ok (.invokevirtual 134, 3) ∧ decode cX7_readText 15 = .ok (.istore_n 3, 1) ∧ decode cX7_readText 16 = .ok (.iload_n 3, 1) ∧ decode cX7_readText 17 = .ok (.bipush (-5), 2) ∧ decode cX7_readText 19 = .ok (.if_icmp .ne 5, 3) ∧ decode cX7_readText 22 = .ok (.iconst 0, 1) ∧ decode cX7_readText 23 = .ok (.ireturn, 1) ∧ decode cX7_readText 24 = .ok (.iload_n 1, 1) := by decide +kernel
theorem dX7_readText_0 : Dc cX7_readText 0 (.aload_n 0) 1 1 := ⟨DX7_readText_c0.1, rfl⟩
theorem dX7_readText_1 : Dc cX7_readText 1 (.iconst 0) 1 2 := ⟨DX7_readText_c0.2.1, rfl⟩
theorem dX7_readText_2 : Dc cX7_readText 2 (.putfield 115) 3 5 := ⟨DX7_readText_c0.2.2.1, rfl⟩
theorem dX7_readText_5 : Dc cX7_readText 5 (.iconst 1) 1 6 := ⟨DX7_readText_c0.2.2.2.1, rfl⟩
theorem dX7_readText_6 : Dc cX7_readText 6 (.istore_n 2) 1 7 := ⟨DX7_readText_c0.2.2.2.2.1, rfl⟩
theorem dX7_readText_7 : Dc cX7_readText 7 (.iload_n 2) 1 8 := ⟨DX7_readText_c0.2.2.2.2.2.1, rfl⟩
theorem dX7_readText_8 : Db cX7_readText 8 (fun o => .ifCond .eq o) 11 71 := ⟨63, DX7_readText_c0.2.2.2.2.2.2.1, rfl, rfl⟩
theorem dX7_readText_11 : Dc cX7_readText 11 (.aload_n 0) 1 12 := ⟨DX7_readText_c0.2.2.2.2.2.2.2.1, rfl⟩
theorem dX7_readText_12 : Dc cX7_readText 12 (.invokevirtual 134) 3 15 := ⟨DX7_readText_c0.2.2.2.2.2.2.2.2.1, rfl⟩
theorem dX7_readText_15 : Dc cX7_readText 15 (.istore_n 3) 1 16 := ⟨DX7_readText_c0.2.2.2.2.2.2.2.2.2.1, rfl⟩
theorem dX7_readText_16 : Dc cX7_readText 16 (.iload_n 3) 1 17 := ⟨DX7_readText_c0.2.2.2.2.2.2.2.2.2.2.1, rfl⟩
theorem dX7_readText_17 : Dc cX7_readText 17 (.bipush (-5)) 2 19 := ⟨DX7_readText_c0.2.2.2.2.2.2.2.2.2.2.2.1, rfl⟩
theorem dX7_readText_19 : Db cX7_readText 19 (fun o => .if_icmp .ne o) 22 24 := ⟨5, DX7_readText_c0.2.2.2.2.2.2.2.2.2.2.2.2.1, rfl, rfl⟩
theorem dX7_readText_22 : Dc cX7_readText 22 (.iconst 0) 1 23 := ⟨DX7_readText_c0.2.2.2.2.2.2.2.2.2.2.2.2.2.1, rfl⟩
theorem dX7_readText_23 : Dc cX7_readText 23 (.ireturn) 1 24 := ⟨DX7_readText_c0.2.2.2.2.2.2.2.2.2.2.2.2.2.2.1, rfl⟩
theorem dX7_readText_24 : Dc cX7_readText 24 (.iload_n 1) 1 25 := ⟨DX7_readText_c0.2.2.2.2.2.2.2.2.2.2.2.2.2.2.2, rfl⟩
theorem DX7_readText_c1 : decode cX7_readText 25 = .ok (.ifCond .eq 27, 3) ∧ decode cX7_readText 28 = .ok (.iload_n 3, 1) ∧ decode cX7_readText 29 = .ok (.ifCond .ne 23, 3) ∧ decode cX7_readText 32 = .ok (.aload_n 0, 1) ∧ decode cX7_readText 33 = .ok (.aload_n 0, 1) ∧ decode cX7_readText 34 = .ok (.getfield 25, 3) ∧ decode cX7_readText 37 = .ok (.iconst 0, 1) ∧ decode cX7_readText 38 = .ok (.iaload, 1) ∧ decode cX7_readText 39 = .ok (.aload_n 0, 1) ∧ decode cX7_readText 40 = .ok (.getfield 28, 3) ∧ decode cX7_readText 43 = .ok (.iconst 0, 1) ∧ decode cX7_readText 44 = .ok (.iaload, 1) ∧ decode cX7_readText 45 = .ok (.invokevirtual 63, 3) ∧ decode cX7_readText 48 = .ok (.pop, 1) ∧ decode cX7_readText 49 = .ok (.goto 12, 3) ∧ decode cX7_readText 52 = .ok (.iload_n 1, 1) := by decide +kernel
theorem dX7_readText_25 : Db cX7_readText 25 (fun o => .ifCond .eq o) 28 52 := ⟨27, DX7_readText_c1.1, rfl, rfl⟩
theorem dX7_readText_28 : Dc cX7_readText 28 (.iload_n 3) 1 29 := ⟨DX7_readText_c1.2.1, rfl⟩
theorem dX7_readText_29 : Db cX7_readText 29 (fun o => .ifCond .ne o) 32 52 := ⟨23, DX7_readText_c1.2.2.1, rfl, rfl⟩
theorem dX7_readText_32 : Dc cX7_readText 32 (.aload_n 0) 1 33 := ⟨DX7_readText_c1.2.2.2.1, rfl⟩
theorem dX7_readText_33 : Dc cX7_readText 33 (.aload_n 0) 1 34 := ⟨DX7_readText_c1.2.2.2.2.1, rfl⟩
theorem dX7_readText_34 : Dc cX7_readText 34 (.getfield 25) 3 37 := ⟨DX7_readText_c1.2.2.2.2.2.1, rfl⟩
theorem dX7_readText_37 : Dc cX7_readText 37 (.iconst 0) 1 38 := ⟨DX7_readText_c1.2.2.2.2.2.2.1, rfl⟩
theorem dX7_readText_38 : Dc cX7_readText 38 (.iaload) 1 39 := ⟨DX7_readText_c1.2.2.2.2.2.2.2.1, rfl⟩
theorem dX7_readText_39 : Dc cX7_readText 39 (.aload_n 0) 1 40 := ⟨DX7_readText_c1.2.2.2.2.2.2.2.2.1, rfl⟩
theorem dX7_readText_40 : Dc cX7_readText 40 (.getfield 28) 3 43 := ⟨DX7_readText_c1.2.2.2.2.2.2.2.2.2.1, rfl⟩
theorem dX7_readText_43 : Dc cX7_readText 43 (.iconst 0) 1 44 := ⟨DX7_readText_c1.2.2.2.2.2.2.2.2.2.2.1, rfl⟩
theorem dX7_readText_44 : Dc cX7_readText 44 (.iaload) 1 45 := ⟨DX7_readText_c1.2.2.2.2.2.2.2.2.2.2.2.1, rfl⟩
theorem dX7_readText_45 : Dc cX7_readText 45 (.invokevirtual 63) 3 48 := ⟨DX7_readText_c1.2.2.2.2.2.2.2.2.2.2.2.2.1, rfl⟩
theorem dX7_readText_48 : Dc cX7_readText 48 (.pop) 1 49 := ⟨DX7_readText_c1.2.2.2.2.2.2.2.2.2.2.2.2.2.1, rfl⟩
theorem dX7_readText_49 : Db cX7_readText 49 .goto 52 61 := ⟨12, DX7_readText_c1.2.2.2.2.2.2.2.2.2.2.2.2.2.2.1, rfl, rfl⟩
theorem dX7_readText_52 : Dc cX7_readText 52 (.iload_n 1) 1 53 := ⟨DX7_readText_c1.2.2.2.2.2.2.2.2.2.2.2.2.2.2.2, rfl⟩
theorem DX7_readText_c2 : decode cX7_readText 53 = .ok (.ifCond .eq 8, 3) ∧ decode cX7_readText 56 = .ok (.aload_n 0, 1) ∧ decode cX7_readText 57 = .ok (.iload_n 3, 1) ∧ decode cX7_readText 58 = .ok (.invokevirtual 105, 3) ∧ decode cX7_readText 61 = .ok (.aload_n 0, 1) ∧ decode cX7_readText 62 = .ok (.bipush 59, 2) ∧ decode cX7_readText 64 = .ok (.invokevirtual 127, 3) ∧ decode cX7_readText 67 = .ok (.istore_n 2, 1) ∧ decode cX7_readText 68 = .ok (.goto (-61), 3) ∧ decode cX7_readText 71 = .ok (.aload_n 0, 1) ∧ decode cX7_readText 72 = .ok (.getfield 115, 3) ∧ decode cX7_readText 75 = .ok (.aload_n 0, 1) ∧ decode cX7_readText 76 = .ok (.getfield 112, 3) ∧ decode cX7_readText 79 = .ok (.if_icmp .ne 7, 3) ∧ decode cX7_readText 82 = .ok (.iconst 1, 1) ∧ decode cX7_readText 83 = .ok (.goto 4, 3) := by decide +kernel
theorem dX7_readText_53 : Db cX7_readText 53 (fun o => .ifCond .eq o) 56 61 := ⟨8, DX7_readText_c2.1, rfl, rfl⟩
theorem dX7_readText_56 : Dc cX7_readText 56 (.aload_n 0) 1 57 := ⟨DX7_readText_c2.2.1, rfl⟩
theorem dX7_readText_57 : Dc cX7_readText 57 (.iload_n 3) 1 58 := ⟨DX7_readText_c2.2.2.1, rfl⟩
theorem dX7_readText_58 : Dc cX7_readText 58 (.invokevirtual 105) 3 61 := ⟨DX7_readText_c2.2.2.2.1, rfl⟩
theorem dX7_readText_61 : Dc cX7_readText 61 (.aload_n 0) 1 62 := ⟨DX7_readText_c2.2.2.2.2.1, rfl⟩
theorem dX7_readText_62 : Dc cX7_readText 62 (.bipush 59) 2 64 := ⟨DX7_readText_c2.2.2.2.2.2.1, rfl⟩
theorem dX7_readText_64 : Dc cX7_readText 64 (.invokevirtual 127) 3 67 := ⟨DX7_readText_c2.2.2.2.2.2.2.1, rfl⟩
theorem dX7_readText_67 : Dc cX7_readText 67 (.istore_n 2) 1 68 := ⟨DX7_readText_c2.2.2.2.2.2.2.2.1, rfl⟩
theorem dX7_readText_68 : Db cX7_readText 68 .goto 71 7 := ⟨-61, DX7_readText_c2.2.2.2.2.2.2.2.2.1, rfl, rfl⟩
theorem dX7_readText_71 : Dc cX7_readText 71 (.aload_n 0) 1 72 := ⟨DX7_readText_c2.2.2.2.2.2.2.2.2.2.1, rfl⟩
theorem dX7_readText_72 : Dc cX7_readText 72 (.getfield 115) 3 75 := ⟨DX7_readText_c2.2.2.2.2.2.2.2.2.2.2.1, rfl⟩
theorem dX7_readText_75 : Dc cX7_readText 75 (.aload_n 0) 1 76 := ⟨DX7_readText_c2.2.2.2.2.2.2.2.2.2.2.2.1, rfl⟩
theorem dX7_readText_76 : Dc cX7_readText 76 (.getfield 112) 3 79 := ⟨DX7_readText_c2.2.2.2.2.2.2.2.2.2.2.2.2.1, rfl⟩
theorem dX7_readText_79 : Db cX7_readText 79 (fun o => .if_icmp .ne o) 82 86 := ⟨7, DX7_readText_c2.2.2.2.2.2.2.2.2.2.2.2.2.2.1, rfl, rfl⟩
theorem dX7_readText_82 : Dc cX7_readText 82 (.iconst 1) 1 83 := ⟨DX7_readText_c2.2.2.2.2.2.2.2.2.2.2.2.2.2.2.1, rfl⟩
theorem dX7_readText_83 : Db cX7_readText 83 .goto 86 87 := ⟨4, DX7_readText_c2.2.2.2.2.2.2.2.2.2.2.2.2.2.2.2, rfl, rfl⟩
theorem DX7_readText_c3 : decode cX7_readText 86 = .ok (.iconst 0, 1) ∧ decode cX7_readText 87 = .ok (.ireturn, 1) := by decide +kernel
theorem dX7_readText_86 : Dc cX7_readText 86 (.iconst 0) 1 87 := ⟨DX7_readText_c3.1, rfl⟩
theorem dX7_readText_87 : Dc cX7_readText 87 (.ireturn) 1 88 := ⟨DX7_readText_c3.2, rfl⟩
theorem DX7_perform_c0 : decode cX7_perform 0 = .ok (.aload_n 0, 1) ∧ decode cX7_perform 1 = .ok (.iconst 0, 1) ∧ decode cX7_perform 2 = .ok (.invokevirtual 138, 3) ∧ decode cX7_perform 5 = .ok (.ifCond .ne 11, 3) ∧ decode cX7_perform 8 = .ok (.bipush (-100), 2) ∧ decode cX7_perform 10 = .ok (.aload_n 0, 1) ∧ decode cX7_perform 11 = .ok (.getfield 115, 3) ∧ decode cX7_perform 14 = .ok (.isub, 1) ∧ decode cX7_perform 15 = .ok (.ireturn, 1) ∧ decode cX7_perform 16 = .ok (.aload_n 0, 1) ∧ decode cX7_perform 17 = .ok (.getfield 7, 3) ∧ decode cX7_perform 20 = .ok (.bipush 32, 2) ∧ decode cX7_perform 22 = .ok (.iaload, 1) ∧ decode cX7_perform 23 = .ok (.iconst 1, 1) ∧ decode cX7_perform 24 = .ok (.if_icmp .ne 6, 3) ∧ decode cX7_perform 27 = .ok (.bipush (-4), 2) := by decide +kernel
theorem dX7_perform_0 : Dc cX7_perform 0 (.aload_n 0) 1 1 := ⟨DX7_perform_c0.1, rfl⟩
theorem dX7_perform_1 : Dc cX7_perform 1 (.iconst 0) 1 2 := ⟨DX7_perform_c0.2.1, rfl⟩
theorem dX7_perform_2 : Dc cX7_perform 2 (.invokevirtual 138) 3 5 := ⟨DX7_perform_c0.2.2.1, rfl⟩
theorem dX7_perform_5 : Db cX7_perform 5 (fun o => .ifCond .ne o) 8 16 := ⟨11, DX7_perform_c0.2.2.2.1, rfl, rfl⟩
theorem dX7_perform_8 : Dc cX7_perform 8 (.bipush (-100)) 2 10 := ⟨DX7_perform_c0.2.2.2.2.1, rfl⟩
theorem dX7_perform_10 : Dc cX7_perform 10 (.aload_n 0) 1 11 := ⟨DX7_perform_c0.2.2.2.2.2.1, rfl⟩
theorem dX7_perform_11 : Dc cX7_perform 11 (.getfield 115) 3 14 := ⟨DX7_perform_c0.2.2.2.2.2.2.1, rfl⟩
theorem dX7_perform_14 : Dc cX7_perform 14 (.isub) 1 15 := ⟨DX7_perform_c0.2.2.2.2.2.2.2.1, rfl⟩
theorem dX7_perform_15 : Dc cX7_perform 15 (.ireturn) 1 16 := ⟨DX7_perform_c0.2.2.2.2.2.2.2.2.1, rfl⟩
theorem dX7_perform_16 : Dc cX7_perform 16 (.aload_n 0) 1 17 := ⟨DX7_perform_c0.2.2.2.2.2.2.2.2.2.1, rfl⟩
theorem dX7_perform_17 : Dc cX7_perform 17 (.getfield 7) 3 20 := ⟨DX7_perform_c0.2.2.2.2.2.2.2.2.2.2.1, rfl⟩
theorem dX7_perform_20 : Dc cX7_perform 20 (.bipush 32) 2 22 := ⟨DX7_perform_c0.2.2.2.2.2.2.2.2.2.2.2.1, rfl⟩
theorem dX7_perform_22 : Dc cX7_perform 22 (.iaload) 1 23 := ⟨DX7_perform_c0.2.2.2.2.2.2.2.2.2.2.2.2.1, rfl⟩
theorem dX7_perform_23 : Dc cX7_perform 23 (.iconst 1) 1 24 := ⟨DX7_perform_c0.2.2.2.2.2.2.2.2.2.2.2.2.2.1, rfl⟩
theorem dX7_perform_24 : Db cX7_perform 24 (fun o => .if_icmp .ne o) 27 30 := ⟨6, DX7_perform_c0.2.2.2.2.2.2.2.2.2.2.2.2.2.2.1, rfl, rfl⟩
theorem dX7_perform_27 : Dc cX7_perform 27 (.bipush (-4)) 2 29 := ⟨DX7_perform_c0.2.2.2.2.2.2.2.2.2.2.2.2.2.2.2, rfl⟩
theorem DX7_perform_c1 : decode cX7_perform 29 = .ok (.ireturn, 1) ∧ decode cX7_perform 30 = .ok (.aload_n 0, 1) ∧ decode cX7_perform 31 = .ok (.invokevirtual 53, 3) ∧ decode cX7_perform 34 = .ok (.aload_n 0, 1) ∧ decode cX7_perform 35 = .ok (.getfield 7, 3) ∧ decode cX7_perform 38 = .ok (.bipush 34, 2) ∧ decode cX7_perform 40 = .ok (.iaload, 1) ∧ decode cX7_perform 41 = .ok (.istore_n 1, 1) ∧ decode cX7_perform 42 = .ok (.aload_n 0, 1) ∧ decode cX7_perform 43 = .ok (.iconst 1, 1) ∧ decode cX7_perform 44 = .ok (.invokevirtual 138, 3) ∧ decode cX7_perform 47 = .ok (.pop, 1) ∧ decode cX7_perform 48 = .ok (.aload_n 0, 1) ∧ decode cX7_perform 49 = .ok (.getfield 7, 3) ∧ decode cX7_perform 52 = .ok (.bipush 34, 2) ∧ decode cX7_perform 54 = .ok (.iaload, 1) := by decide +kernel
theorem dX7_perform_29 : Dc cX7_perform 29 (.ireturn) 1 30 := ⟨DX7_perform_c1.1, rfl⟩
theorem dX7_perform_30 : Dc cX7_perform 30 (.aload_n 0) 1 31 := ⟨DX7_perform_c1.2.1, rfl⟩
theorem dX7_perform_31 : Dc cX7_perform 31 (.invokevirtual 53) 3 34 := ⟨DX7_perform_c1.2.2.1, rfl⟩
theorem dX7_perform_34 : Dc cX7_perform 34 (.aload_n 0) 1 35 := ⟨DX7_perform_c1.2.2.2.1, rfl⟩
theorem dX7_perform_35 : Dc cX7_perform 35 (.getfield 7) 3 38 := ⟨DX7_perform_c1.2.2.2.2.1, rfl⟩
theorem dX7_perform_38 : Dc cX7_perform 38 (.bipush 34) 2 40 := ⟨DX7_perform_c1.2.2.2.2.2.1, rfl⟩
theorem dX7_perform_40 : Dc cX7_perform 40 (.iaload) 1 41 := ⟨DX7_perform_c1.2.2.2.2.2.2.1, rfl⟩
theorem dX7_perform_41 : Dc cX7_perform 41 (.istore_n 1) 1 42 := ⟨DX7_perform_c1.2.2.2.2.2.2.2.1, rfl⟩
theorem dX7_perform_42 : Dc cX7_perform 42 (.aload_n 0) 1 43 := ⟨DX7_perform_c1.2.2.2.2.2.2.2.2.1, rfl⟩
theorem dX7_perform_43 : Dc cX7_perform 43 (.iconst 1) 1 44 := ⟨DX7_perform_c1.2.2.2.2.2.2.2.2.2.1, rfl⟩
theorem dX7_perform_44 : Dc cX7_perform 44 (.invokevirtual 138) 3 47 := ⟨DX7_perform_c1.2.2.2.2.2.2.2.2.2.2.1, rfl⟩
theorem dX7_perform_47 : Dc cX7_perform 47 (.pop) 1 48 := ⟨DX7_perform_c1.2.2.2.2.2.2.2.2.2.2.2.1, rfl⟩
theorem dX7_perform_48 : Dc cX7_perform 48 (.aload_n 0) 1 49 := ⟨DX7_perform_c1.2.2.2.2.2.2.2.2.2.2.2.2.1, rfl⟩
theorem dX7_perform_49 : Dc cX7_perform 49 (.getfield 7) 3 52 := ⟨DX7_perform_c1.2.2.2.2.2.2.2.2.2.2.2.2.2.1, rfl⟩
theorem dX7_perform_52 : Dc cX7_perform 52 (.bipush 34) 2 54 := ⟨DX7_perform_c1.2.2.2.2.2.2.2.2.2.2.2.2.2.2.1, rfl⟩
theorem dX7_perform_54 : Dc cX7_perform 54 (.iaload) 1 55 := ⟨DX7_perform_c1.2.2.2.2.2.2.2.2.2.2.2.2.2.2.2, rfl⟩
theorem DX7_perform_c2 : decode cX7_perform 55 = .ok (.iload_n 1, 1) ∧ decode cX7_perform 56 = .ok (.isub, 1) ∧ decode cX7_perform 57 = .ok (.ireturn, 1) := by decide +kernel
theorem dX7_perform_55 : Dc cX7_perform 55 (.iload_n 1) 1 56 := ⟨DX7_perform_c2.1, rfl⟩
theorem dX7_perform_56 : Dc cX7_perform 56 (.isub) 1 57 := ⟨DX7_perform_c2.2.1, rfl⟩
theorem dX7_perform_57 : Dc cX7_perform 57 (.ireturn) 1 58 := ⟨DX7_perform_c2.2.2, rfl⟩
theorem DX7_cell_c0 : decode cX7_cell 0 = .ok (.iload_n 1, 1) ∧ decode cX7_cell 1 = .ok (.iconst 0, 1) ∧ decode cX7_cell 2 = .ok (.bipush 29, 2) ∧ decode cX7_cell 4 = .ok (.invokestatic 37, 3) ∧ decode cX7_cell 7 = .ok (.ifCond .eq 12, 3) ∧ decode cX7_cell 10 = .ok (.aload_n 0, 1) ∧ decode cX7_cell 11 = .ok (.getfield 7, 3) ∧ decode cX7_cell 14 = .ok (.iload_n 1, 1) ∧ decode cX7_cell 15 = .ok (.iaload, 1) ∧ decode cX7_cell 16 = .ok (.goto 4, 3) ∧ decode cX7_cell 19 = .ok (.iconst (-1), 1) ∧ decode cX7_cell 20 = .ok (.ireturn, 1) := by decide +kernel
theorem dX7_cell_0 : Dc cX7_cell 0 (.iload_n 1) 1 1 := ⟨DX7_cell_c0.1, rfl⟩
theorem dX7_cell_1 : Dc cX7_cell 1 (.iconst 0) 1 2 := ⟨DX7_cell_c0.2.1, rfl⟩
theorem dX7_cell_2 : Dc cX7_cell 2 (.bipush 29) 2 4 := ⟨DX7_cell_c0.2.2.1, rfl⟩
theorem dX7_cell_4 : Dc cX7_cell 4 (.invokestatic 37) 3 7 := ⟨DX7_cell_c0.2.2.2.1, rfl⟩
theorem dX7_cell_7 : Db cX7_cell 7 (fun o => .ifCond .eq o) 10 19 := ⟨12, DX7_cell_c0.2.2.2.2.1, rfl, rfl⟩
theorem dX7_cell_10 : Dc cX7_cell 10 (.aload_n 0) 1 11 := ⟨DX7_cell_c0.2.2.2.2.2.1, rfl⟩
theorem dX7_cell_11 : Dc cX7_cell 11 (.getfield 7) 3 14 := ⟨DX7_cell_c0.2.2.2.2.2.2.1, rfl⟩
theorem dX7_cell_14 : Dc cX7_cell 14 (.iload_n 1) 1 15 := ⟨DX7_cell_c0.2.2.2.2.2.2.2.1, rfl⟩
theorem dX7_cell_15 : Dc cX7_cell 15 (.iaload) 1 16 := ⟨DX7_cell_c0.2.2.2.2.2.2.2.2.1, rfl⟩
theorem dX7_cell_16 : Db cX7_cell 16 .goto 19 20 := ⟨4, DX7_cell_c0.2.2.2.2.2.2.2.2.2.1, rfl, rfl⟩
theorem dX7_cell_19 : Dc cX7_cell 19 (.iconst (-1)) 1 20 := ⟨DX7_cell_c0.2.2.2.2.2.2.2.2.2.2.1, rfl⟩
theorem dX7_cell_20 : Dc cX7_cell 20 (.ireturn) 1 21 := ⟨DX7_cell_c0.2.2.2.2.2.2.2.2.2.2.2, rfl⟩
theorem DX7_ofTry_c0 : decode cX7_ofTry 0 = .ok (.aload_n 0, 1) ∧ decode cX7_ofTry 1 = .ok (.iload_n 1, 1) ∧ decode cX7_ofTry 2 = .ok (.invokevirtual 67, 3) ∧ decode cX7_ofTry 5 = .ok (.ifCond .ne 25, 3) ∧ decode cX7_ofTry 8 = .ok (.aload_n 0, 1) ∧ decode cX7_ofTry 9 = .ok (.getfield 7, 3) ∧ decode cX7_ofTry 12 = .ok (.bipush 32, 2) ∧ decode cX7_ofTry 14 = .ok (.iaload, 1) ∧ decode cX7_ofTry 15 = .ok (.iconst 1, 1) ∧ decode cX7_ofTry 16 = .ok (.if_icmp .ne 18, 3) ∧ decode cX7_ofTry 19 = .ok (.iload_n 1, 1) ∧ decode cX7_ofTry 20 = .ok (.aload_n 0, 1) ∧ decode cX7_ofTry 21 = .ok (.getfield 7, 3) ∧ decode cX7_ofTry 24 = .ok (.bipush 31, 2) ∧ decode cX7_ofTry 26 = .ok (.iaload, 1) ∧ decode cX7_ofTry 27 = .ok (.if_icmp .ne 7, 3) := by decide +kernel
theorem dX7_ofTry_0 : Dc cX7_ofTry 0 (.aload_n 0) 1 1 := ⟨DX7_ofTry_c0.1, rfl⟩
theorem dX7_ofTry_1 : Dc cX7_ofTry 1 (.iload_n 1) 1 2 := ⟨DX7_ofTry_c0.2.1, rfl⟩
theorem dX7_ofTry_2 : Dc cX7_ofTry 2 (.invokevirtual 67) 3 5 := ⟨DX7_ofTry_c0.2.2.1, rfl⟩
theorem dX7_ofTry_5 : Db cX7_ofTry 5 (fun o => .ifCond .ne o) 8 30 := ⟨25, DX7_ofTry_c0.2.2.2.1, rfl, rfl⟩
theorem dX7_ofTry_8 : Dc cX7_ofTry 8 (.aload_n 0) 1 9 := ⟨DX7_ofTry_c0.2.2.2.2.1, rfl⟩
theorem dX7_ofTry_9 : Dc cX7_ofTry 9 (.getfield 7) 3 12 := ⟨DX7_ofTry_c0.2.2.2.2.2.1, rfl⟩
theorem dX7_ofTry_12 : Dc cX7_ofTry 12 (.bipush 32) 2 14 := ⟨DX7_ofTry_c0.2.2.2.2.2.2.1, rfl⟩
theorem dX7_ofTry_14 : Dc cX7_ofTry 14 (.iaload) 1 15 := ⟨DX7_ofTry_c0.2.2.2.2.2.2.2.1, rfl⟩
theorem dX7_ofTry_15 : Dc cX7_ofTry 15 (.iconst 1) 1 16 := ⟨DX7_ofTry_c0.2.2.2.2.2.2.2.2.1, rfl⟩
theorem dX7_ofTry_16 : Db cX7_ofTry 16 (fun o => .if_icmp .ne o) 19 34 := ⟨18, DX7_ofTry_c0.2.2.2.2.2.2.2.2.2.1, rfl, rfl⟩
theorem dX7_ofTry_19 : Dc cX7_ofTry 19 (.iload_n 1) 1 20 := ⟨DX7_ofTry_c0.2.2.2.2.2.2.2.2.2.2.1, rfl⟩
theorem dX7_ofTry_20 : Dc cX7_ofTry 20 (.aload_n 0) 1 21 := ⟨DX7_ofTry_c0.2.2.2.2.2.2.2.2.2.2.2.1, rfl⟩
theorem dX7_ofTry_21 : Dc cX7_ofTry 21 (.getfield 7) 3 24 := ⟨DX7_ofTry_c0.2.2.2.2.2.2.2.2.2.2.2.2.1, rfl⟩
theorem dX7_ofTry_24 : Dc cX7_ofTry 24 (.bipush 31) 2 26 := ⟨DX7_ofTry_c0.2.2.2.2.2.2.2.2.2.2.2.2.2.1, rfl⟩
theorem dX7_ofTry_26 : Dc cX7_ofTry 26 (.iaload) 1 27 := ⟨DX7_ofTry_c0.2.2.2.2.2.2.2.2.2.2.2.2.2.2.1, rfl⟩
theorem dX7_ofTry_27 : Db cX7_ofTry 27 (fun o => .if_icmp .ne o) 30 34 := ⟨7, DX7_ofTry_c0.2.2.2.2.2.2.2.2.2.2.2.2.2.2.2, rfl, rfl⟩
theorem DX7_ofTry_c1 : decode cX7_ofTry 30 = .ok (.iconst 1, 1) ∧ decode cX7_ofTry 31 = .ok (.goto 4, 3) ∧ decode cX7_ofTry 34 = .ok (.iconst 0, 1) ∧ decode cX7_ofTry 35 = .ok (.istore 4, 2) ∧ decode cX7_ofTry 37 = .ok (.iload 4, 2) ∧ decode cX7_ofTry 39 = .ok (.ifCond .eq 18, 3) ∧ decode cX7_ofTry 42 = .ok (.iload_n 2, 1) ∧ decode cX7_ofTry 43 = .ok (.iconst 0, 1) ∧ decode cX7_ofTry 44 = .ok (.aload_n 0, 1) ∧ decode cX7_ofTry 45 = .ok (.iload_n 1, 1) ∧ decode cX7_ofTry 46 = .ok (.invokevirtual 60, 3) ∧ decode cX7_ofTry 49 = .ok (.iconst 1, 1) ∧ decode cX7_ofTry 50 = .ok (.isub, 1) ∧ decode cX7_ofTry 51 = .ok (.invokestatic 37, 3) ∧ decode cX7_ofTry 54 = .ok (.ifCond .ne 5, 3) ∧ decode cX7_ofTry 57 = .ok (.iconst (-1), 1) := by decide +kernel
theorem dX7_ofTry_30 : Dc cX7_ofTry 30 (.iconst 1) 1 31 := ⟨DX7_ofTry_c1.1, rfl⟩
theorem dX7_ofTry_31 : Db cX7_ofTry 31 .goto 34 35 := ⟨4, DX7_ofTry_c1.2.1, rfl, rfl⟩
theorem dX7_ofTry_34 : Dc cX7_ofTry 34 (.iconst 0) 1 35 := ⟨DX7_ofTry_c1.2.2.1, rfl⟩
theorem dX7_ofTry_35 : Dc cX7_ofTry 35 (.istore 4) 2 37 := ⟨DX7_ofTry_c1.2.2.2.1, rfl⟩
theorem dX7_ofTry_37 : Dc cX7_ofTry 37 (.iload 4) 2 39 := ⟨DX7_ofTry_c1.2.2.2.2.1, rfl⟩
theorem dX7_ofTry_39 : Db cX7_ofTry 39 (fun o => .ifCond .eq o) 42 57 := ⟨18, DX7_ofTry_c1.2.2.2.2.2.1, rfl, rfl⟩
theorem dX7_ofTry_42 : Dc cX7_ofTry 42 (.iload_n 2) 1 43 := ⟨DX7_ofTry_c1.2.2.2.2.2.2.1, rfl⟩
theorem dX7_ofTry_43 : Dc cX7_ofTry 43 (.iconst 0) 1 44 := ⟨DX7_ofTry_c1.2.2.2.2.2.2.2.1, rfl⟩
theorem dX7_ofTry_44 : Dc cX7_ofTry 44 (.aload_n 0) 1 45 := ⟨DX7_ofTry_c1.2.2.2.2.2.2.2.2.1, rfl⟩
theorem dX7_ofTry_45 : Dc cX7_ofTry 45 (.iload_n 1) 1 46 := ⟨DX7_ofTry_c1.2.2.2.2.2.2.2.2.2.1, rfl⟩
theorem dX7_ofTry_46 : Dc cX7_ofTry 46 (.invokevirtual 60) 3 49 := ⟨DX7_ofTry_c1.2.2.2.2.2.2.2.2.2.2.1, rfl⟩
theorem dX7_ofTry_49 : Dc cX7_ofTry 49 (.iconst 1) 1 50 := ⟨DX7_ofTry_c1.2.2.2.2.2.2.2.2.2.2.2.1, rfl⟩
theorem dX7_ofTry_50 : Dc cX7_ofTry 50 (.isub) 1 51 := ⟨DX7_ofTry_c1.2.2.2.2.2.2.2.2.2.2.2.2.1, rfl⟩
theorem dX7_ofTry_51 : Dc cX7_ofTry 51 (.invokestatic 37) 3 54 := ⟨DX7_ofTry_c1.2.2.2.2.2.2.2.2.2.2.2.2.2.1, rfl⟩
theorem dX7_ofTry_54 : Db cX7_ofTry 54 (fun o => .ifCond .ne o) 57 59 := ⟨5, DX7_ofTry_c1.2.2.2.2.2.2.2.2.2.2.2.2.2.2.1, rfl, rfl⟩
theorem dX7_ofTry_57 : Dc cX7_ofTry 57 (.iconst (-1)) 1 58 := ⟨DX7_ofTry_c1.2.2.2.2.2.2.2.2.2.2.2.2.2.2.2, rfl⟩
theorem DX7_ofTry_c2 : decode cX7_ofTry 58 = .ok (.ireturn, 1) ∧ decode cX7_ofTry 59 = .ok (.iload_n 3, 1) ∧ decode cX7_ofTry 60 = .ok (.ifCond .ne 12, 3) ∧ decode cX7_ofTry 63 = .ok (.aload_n 0, 1) ∧ decode cX7_ofTry 64 = .ok (.iload_n 1, 1) ∧ decode cX7_ofTry 65 = .ok (.iload_n 2, 1) ∧ decode cX7_ofTry 66 = .ok (.invokevirtual 71, 3) ∧ decode cX7_ofTry 69 = .ok (.goto 19, 3) ∧ decode cX7_ofTry 72 = .ok (.iload_n 3, 1) ∧ decode cX7_ofTry 73 = .ok (.iconst 1, 1) ∧ decode cX7_ofTry 74 = .ok (.if_icmp .ne 12, 3) ∧ decode cX7_ofTry 77 = .ok (.aload_n 0, 1) ∧ decode cX7_ofTry 78 = .ok (.iload_n 1, 1) ∧ decode cX7_ofTry 79 = .ok (.iload_n 2, 1) ∧ decode cX7_ofTry 80 = .ok (.invokevirtual 75, 3) ∧ decode cX7_ofTry 83 = .ok (.goto 5, 3) := by decide +kernel
theorem dX7_ofTry_58 : Dc cX7_ofTry 58 (.ireturn) 1 59 := ⟨DX7_ofTry_c2.1, rfl⟩
theorem dX7_ofTry_59 : Dc cX7_ofTry 59 (.iload_n 3) 1 60 := ⟨DX7_ofTry_c2.2.1, rfl⟩
theorem dX7_ofTry_60 : Db cX7_ofTry 60 (fun o => .ifCond .ne o) 63 72 := ⟨12, DX7_ofTry_c2.2.2.1, rfl, rfl⟩
theorem dX7_ofTry_63 : Dc cX7_ofTry 63 (.aload_n 0) 1 64 := ⟨DX7_ofTry_c2.2.2.2.1, rfl⟩
theorem dX7_ofTry_64 : Dc cX7_ofTry 64 (.iload_n 1) 1 65 := ⟨DX7_ofTry_c2.2.2.2.2.1, rfl⟩
theorem dX7_ofTry_65 : Dc cX7_ofTry 65 (.iload_n 2) 1 66 := ⟨DX7_ofTry_c2.2.2.2.2.2.1, rfl⟩
theorem dX7_ofTry_66 : Dc cX7_ofTry 66 (.invokevirtual 71) 3 69 := ⟨DX7_ofTry_c2.2.2.2.2.2.2.1, rfl⟩
theorem dX7_ofTry_69 : Db cX7_ofTry 69 .goto 72 88 := ⟨19, DX7_ofTry_c2.2.2.2.2.2.2.2.1, rfl, rfl⟩
theorem dX7_ofTry_72 : Dc cX7_ofTry 72 (.iload_n 3) 1 73 := ⟨DX7_ofTry_c2.2.2.2.2.2.2.2.2.1, rfl⟩
theorem dX7_ofTry_73 : Dc cX7_ofTry 73 (.iconst 1) 1 74 := ⟨DX7_ofTry_c2.2.2.2.2.2.2.2.2.2.1, rfl⟩
theorem dX7_ofTry_74 : Db cX7_ofTry 74 (fun o => .if_icmp .ne o) 77 86 := ⟨12, DX7_ofTry_c2.2.2.2.2.2.2.2.2.2.2.1, rfl, rfl⟩
theorem dX7_ofTry_77 : Dc cX7_ofTry 77 (.aload_n 0) 1 78 := ⟨DX7_ofTry_c2.2.2.2.2.2.2.2.2.2.2.2.1, rfl⟩
theorem dX7_ofTry_78 : Dc cX7_ofTry 78 (.iload_n 1) 1 79 := ⟨DX7_ofTry_c2.2.2.2.2.2.2.2.2.2.2.2.2.1, rfl⟩
theorem dX7_ofTry_79 : Dc cX7_ofTry 79 (.iload_n 2) 1 80 := ⟨DX7_ofTry_c2.2.2.2.2.2.2.2.2.2.2.2.2.2.1, rfl⟩
theorem dX7_ofTry_80 : Dc cX7_ofTry 80 (.invokevirtual 75) 3 83 := ⟨DX7_ofTry_c2.2.2.2.2.2.2.2.2.2.2.2.2.2.2.1, rfl⟩
theorem dX7_ofTry_83 : Db cX7_ofTry 83 .goto 86 88 := ⟨5, DX7_ofTry_c2.2.2.2.2.2.2.2.2.2.2.2.2.2.2.2, rfl, rfl⟩
theorem DX7_ofTry_c3 : decode cX7_ofTry 86 = .ok (.bipush (-2), 2) ∧ decode cX7_ofTry 88 = .ok (.ireturn, 1) := by decide +kernel
theorem dX7_ofTry_86 : Dc cX7_ofTry 86 (.bipush (-2)) 2 88 := ⟨DX7_ofTry_c3.1, rfl⟩
theorem dX7_ofTry_88 : Dc cX7_ofTry 88 (.ireturn) 1 89 := ⟨DX7_ofTry_c3.2, rfl⟩
theorem DX7_ofLoop_c0 : decode cX7_ofLoop 0 = .ok (.aload_n 0, 1) ∧ decode cX7_ofLoop 1 = .ok (.iload_n 1, 1) ∧ decode cX7_ofLoop 2 = .ok (.invokevirtual 92, 3) ∧ decode cX7_ofLoop 5 = .ok (.ifCond .eq 26, 3) ∧ decode cX7_ofLoop 8 = .ok (.iload_n 2, 1) ∧ decode cX7_ofLoop 9 = .ok (.iconst 0, 1) ∧ decode cX7_ofLoop 10 = .ok (.aload_n 0, 1) ∧ decode cX7_ofLoop 11 = .ok (.getfield 7, 3) ∧ decode cX7_ofLoop 14 = .ok (.sipush 213, 3) ∧ decode cX7_ofLoop 17 = .ok (.bipush 38, 2) ∧ decode cX7_ofLoop 19 = .ok (.iload_n 1, 1) ∧ decode cX7_ofLoop 20 = .ok (.imul, 1) ∧ decode cX7_ofLoop 21 = .ok (.iadd, 1) ∧ decode cX7_ofLoop 22 = .ok (.iaload, 1) ∧ decode cX7_ofLoop 23 = .ok (.iconst 1, 1) ∧ decode cX7_ofLoop 24 = .ok (.isub, 1) := by decide +kernel
theorem dX7_ofLoop_0 : Dc cX7_ofLoop 0 (.aload_n 0) 1 1 := ⟨DX7_ofLoop_c0.1, rfl⟩
theorem dX7_ofLoop_1 : Dc cX7_ofLoop 1 (.iload_n 1) 1 2 := ⟨DX7_ofLoop_c0.2.1, rfl⟩
theorem dX7_ofLoop_2 : Dc cX7_ofLoop 2 (.invokevirtual 92) 3 5 := ⟨DX7_ofLoop_c0.2.2.1, rfl⟩
theorem dX7_ofLoop_5 : Db cX7_ofLoop 5 (fun o => .ifCond .eq o) 8 31 := ⟨26, DX7_ofLoop_c0.2.2.2.1, rfl, rfl⟩
theorem dX7_ofLoop_8 : Dc cX7_ofLoop 8 (.iload_n 2) 1 9 := ⟨DX7_ofLoop_c0.2.2.2.2.1, rfl⟩
theorem dX7_ofLoop_9 : Dc cX7_ofLoop 9 (.iconst 0) 1 10 := ⟨DX7_ofLoop_c0.2.2.2.2.2.1, rfl⟩
theorem dX7_ofLoop_10 : Dc cX7_ofLoop 10 (.aload_n 0) 1 11 := ⟨DX7_ofLoop_c0.2.2.2.2.2.2.1, rfl⟩
theorem dX7_ofLoop_11 : Dc cX7_ofLoop 11 (.getfield 7) 3 14 := ⟨DX7_ofLoop_c0.2.2.2.2.2.2.2.1, rfl⟩
theorem dX7_ofLoop_14 : Dc cX7_ofLoop 14 (.sipush 213) 3 17 := ⟨DX7_ofLoop_c0.2.2.2.2.2.2.2.2.1, rfl⟩
theorem dX7_ofLoop_17 : Dc cX7_ofLoop 17 (.bipush 38) 2 19 := ⟨DX7_ofLoop_c0.2.2.2.2.2.2.2.2.2.1, rfl⟩
theorem dX7_ofLoop_19 : Dc cX7_ofLoop 19 (.iload_n 1) 1 20 := ⟨DX7_ofLoop_c0.2.2.2.2.2.2.2.2.2.2.1, rfl⟩
theorem dX7_ofLoop_20 : Dc cX7_ofLoop 20 (.imul) 1 21 := ⟨DX7_ofLoop_c0.2.2.2.2.2.2.2.2.2.2.2.1, rfl⟩
theorem dX7_ofLoop_21 : Dc cX7_ofLoop 21 (.iadd) 1 22 := ⟨DX7_ofLoop_c0.2.2.2.2.2.2.2.2.2.2.2.2.1, rfl⟩
theorem dX7_ofLoop_22 : Dc cX7_ofLoop 22 (.iaload) 1 23 := ⟨DX7_ofLoop_c0.2.2.2.2.2.2.2.2.2.2.2.2.2.1, rfl⟩
theorem dX7_ofLoop_23 : Dc cX7_ofLoop 23 (.iconst 1) 1 24 := ⟨DX7_ofLoop_c0.2.2.2.2.2.2.2.2.2.2.2.2.2.2.1, rfl⟩
theorem dX7_ofLoop_24 : Dc cX7_ofLoop 24 (.isub) 1 25 := ⟨DX7_ofLoop_c0.2.2.2.2.2.2.2.2.2.2.2.2.2.2.2, rfl⟩
theorem DX7_ofLoop_c1 : decode cX7_ofLoop 25 = .ok (.invokestatic 37, 3) ∧ decode cX7_ofLoop 28 = .ok (.ifCond .ne 5, 3) ∧ decode cX7_ofLoop 31 = .ok (.iconst (-1), 1) ∧ decode cX7_ofLoop 32 = .ok (.ireturn, 1) ∧ decode cX7_ofLoop 33 = .ok (.sipush 213, 3) ∧ decode cX7_ofLoop 36 = .ok (.bipush 38, 2) ∧ decode cX7_ofLoop 38 = .ok (.iload_n 1, 1) ∧ decode cX7_ofLoop 39 = .ok (.imul, 1) ∧ decode cX7_ofLoop 40 = .ok (.iadd, 1) ∧ decode cX7_ofLoop 41 = .ok (.iconst 2, 1) ∧ decode cX7_ofLoop 42 = .ok (.iadd, 1) ∧ decode cX7_ofLoop 43 = .ok (.iconst 3, 1) ∧ decode cX7_ofLoop 44 = .ok (.iload_n 2, 1) ∧ decode cX7_ofLoop 45 = .ok (.imul, 1) ∧ decode cX7_ofLoop 46 = .ok (.iadd, 1) ∧ decode cX7_ofLoop 47 = .ok (.istore 4, 2) := by decide +kernel
theorem dX7_ofLoop_25 : Dc cX7_ofLoop 25 (.invokestatic 37) 3 28 := ⟨DX7_ofLoop_c1.1, rfl⟩
theorem dX7_ofLoop_28 : Db cX7_ofLoop 28 (fun o => .ifCond .ne o) 31 33 := ⟨5, DX7_ofLoop_c1.2.1, rfl, rfl⟩
theorem dX7_ofLoop_31 : Dc cX7_ofLoop 31 (.iconst (-1)) 1 32 := ⟨DX7_ofLoop_c1.2.2.1, rfl⟩
theorem dX7_ofLoop_32 : Dc cX7_ofLoop 32 (.ireturn) 1 33 := ⟨DX7_ofLoop_c1.2.2.2.1, rfl⟩
theorem dX7_ofLoop_33 : Dc cX7_ofLoop 33 (.sipush 213) 3 36 := ⟨DX7_ofLoop_c1.2.2.2.2.1, rfl⟩
theorem dX7_ofLoop_36 : Dc cX7_ofLoop 36 (.bipush 38) 2 38 := ⟨DX7_ofLoop_c1.2.2.2.2.2.1, rfl⟩
theorem dX7_ofLoop_38 : Dc cX7_ofLoop 38 (.iload_n 1) 1 39 := ⟨DX7_ofLoop_c1.2.2.2.2.2.2.1, rfl⟩
theorem dX7_ofLoop_39 : Dc cX7_ofLoop 39 (.imul) 1 40 := ⟨DX7_ofLoop_c1.2.2.2.2.2.2.2.1, rfl⟩
theorem dX7_ofLoop_40 : Dc cX7_ofLoop 40 (.iadd) 1 41 := ⟨DX7_ofLoop_c1.2.2.2.2.2.2.2.2.1, rfl⟩
theorem dX7_ofLoop_41 : Dc cX7_ofLoop 41 (.iconst 2) 1 42 := ⟨DX7_ofLoop_c1.2.2.2.2.2.2.2.2.2.1, rfl⟩
theorem dX7_ofLoop_42 : Dc cX7_ofLoop 42 (.iadd) 1 43 := ⟨DX7_ofLoop_c1.2.2.2.2.2.2.2.2.2.2.1, rfl⟩
theorem dX7_ofLoop_43 : Dc cX7_ofLoop 43 (.iconst 3) 1 44 := ⟨DX7_ofLoop_c1.2.2.2.2.2.2.2.2.2.2.2.1, rfl⟩
theorem dX7_ofLoop_44 : Dc cX7_ofLoop 44 (.iload_n 2) 1 45 := ⟨DX7_ofLoop_c1.2.2.2.2.2.2.2.2.2.2.2.2.1, rfl⟩
theorem dX7_ofLoop_45 : Dc cX7_ofLoop 45 (.imul) 1 46 := ⟨DX7_ofLoop_c1.2.2.2.2.2.2.2.2.2.2.2.2.2.1, rfl⟩
theorem dX7_ofLoop_46 : Dc cX7_ofLoop 46 (.iadd) 1 47 := ⟨DX7_ofLoop_c1.2.2.2.2.2.2.2.2.2.2.2.2.2.2.1, rfl⟩
theorem dX7_ofLoop_47 : Dc cX7_ofLoop 47 (.istore 4) 2 49 := ⟨DX7_ofLoop_c1.2.2.2.2.2.2.2.2.2.2.2.2.2.2.2, rfl⟩
theorem DX7_ofLoop_c2 : decode cX7_ofLoop 49 = .ok (.iload_n 3, 1) ∧ decode cX7_ofLoop 50 = .ok (.tableswitch 96 0 3 #[30, 30, 40, 54], 30) ∧ decode cX7_ofLoop 80 = .ok (.aload_n 0, 1) ∧ decode cX7_ofLoop 81 = .ok (.getfield 7, 3) ∧ decode cX7_ofLoop 84 = .ok (.iload 4, 2) ∧ decode cX7_ofLoop 86 = .ok (.iload_n 3, 1) ∧ decode cX7_ofLoop 87 = .ok (.iadd, 1) ∧ decode cX7_ofLoop 88 = .ok (.iaload, 1) ∧ decode cX7_ofLoop 89 = .ok (.ireturn, 1) ∧ decode cX7_ofLoop 90 = .ok (.aload_n 0, 1) ∧ decode cX7_ofLoop 91 = .ok (.getfield 7, 3) ∧ decode cX7_ofLoop 94 = .ok (.iload 4, 2) ∧ decode cX7_ofLoop 96 = .ok (.iconst 2, 1) ∧ decode cX7_ofLoop 97 = .ok (.iadd, 1) ∧ decode cX7_ofLoop 98 = .ok (.iaload, 1) ∧ decode cX7_ofLoop 99 = .ok (.sipush 1000, 3) := by decide +kernel
theorem dX7_ofLoop_49 : Dc cX7_ofLoop 49 (.iload_n 3) 1 50 := ⟨DX7_ofLoop_c2.1, rfl⟩
theorem dX7_ofLoop_50 : decode cX7_ofLoop 50 = .ok (.tableswitch 96 0 3 #[30, 30, 40, 54], 30) := DX7_ofLoop_c2.2.1
theorem dX7_ofLoop_80 : Dc cX7_ofLoop 80 (.aload_n 0) 1 81 := ⟨DX7_ofLoop_c2.2.2.1, rfl⟩
theorem dX7_ofLoop_81 : Dc cX7_ofLoop 81 (.getfield 7) 3 84 := ⟨DX7_ofLoop_c2.2.2.2.1, rfl⟩
theorem dX7_ofLoop_84 : Dc cX7_ofLoop 84 (.iload 4) 2 86 := ⟨DX7_ofLoop_c2.2.2.2.2.1, rfl⟩
theorem dX7_ofLoop_86 : Dc cX7_ofLoop 86 (.iload_n 3) 1 87 := ⟨DX7_ofLoop_c2.2.2.2.2.2.1, rfl⟩
theorem dX7_ofLoop_87 : Dc cX7_ofLoop 87 (.iadd) 1 88 := ⟨DX7_ofLoop_c2.2.2.2.2.2.2.1, rfl⟩
theorem dX7_ofLoop_88 : Dc cX7_ofLoop 88 (.iaload) 1 89 := ⟨DX7_ofLoop_c2.2.2.2.2.2.2.2.1, rfl⟩
theorem dX7_ofLoop_89 : Dc cX7_ofLoop 89 (.ireturn) 1 90 := ⟨DX7_ofLoop_c2.2.2.2.2.2.2.2.2.1, rfl⟩
theorem dX7_ofLoop_90 : Dc cX7_ofLoop 90 (.aload_n 0) 1 91 := ⟨DX7_ofLoop_c2.2.2.2.2.2.2.2.2.2.1, rfl⟩
theorem dX7_ofLoop_91 : Dc cX7_ofLoop 91 (.getfield 7) 3 94 := ⟨DX7_ofLoop_c2.2.2.2.2.2.2.2.2.2.2.1, rfl⟩
theorem dX7_ofLoop_94 : Dc cX7_ofLoop 94 (.iload 4) 2 96 := ⟨DX7_ofLoop_c2.2.2.2.2.2.2.2.2.2.2.2.1, rfl⟩
theorem dX7_ofLoop_96 : Dc cX7_ofLoop 96 (.iconst 2) 1 97 := ⟨DX7_ofLoop_c2.2.2.2.2.2.2.2.2.2.2.2.2.1, rfl⟩
theorem dX7_ofLoop_97 : Dc cX7_ofLoop 97 (.iadd) 1 98 := ⟨DX7_ofLoop_c2.2.2.2.2.2.2.2.2.2.2.2.2.2.1, rfl⟩
theorem dX7_ofLoop_98 : Dc cX7_ofLoop 98 (.iaload) 1 99 := ⟨DX7_ofLoop_c2.2.2.2.2.2.2.2.2.2.2.2.2.2.2.1, rfl⟩
theorem dX7_ofLoop_99 : Dc cX7_ofLoop 99 (.sipush 1000) 3 102 := ⟨DX7_ofLoop_c2.2.2.2.2.2.2.2.2.2.2.2.2.2.2.2, rfl⟩
theorem DX7_ofLoop_c3 : decode cX7_ofLoop 102 = .ok (.iadd, 1) ∧ decode cX7_ofLoop 103 = .ok (.ireturn, 1) ∧ decode cX7_ofLoop 104 = .ok (.aload_n 0, 1) ∧ decode cX7_ofLoop 105 = .ok (.getfield 7, 3) ∧ decode cX7_ofLoop 108 = .ok (.iload 4, 2) ∧ decode cX7_ofLoop 110 = .ok (.iconst 1, 1) ∧ decode cX7_ofLoop 111 = .ok (.iadd, 1) ∧ decode cX7_ofLoop 112 = .ok (.iaload, 1) ∧ decode cX7_ofLoop 113 = .ok (.aload_n 0, 1) ∧ decode cX7_ofLoop 114 = .ok (.getfield 7, 3) ∧ decode cX7_ofLoop 117 = .ok (.sipush 213, 3) ∧ decode cX7_ofLoop 120 = .ok (.bipush 38, 2) ∧ decode cX7_ofLoop 122 = .ok (.iload_n 1, 1) ∧ decode cX7_ofLoop 123 = .ok (.imul, 1) ∧ decode cX7_ofLoop 124 = .ok (.iadd, 1) ∧ decode cX7_ofLoop 125 = .ok (.iconst 1, 1) := by decide +kernel
theorem dX7_ofLoop_102 : Dc cX7_ofLoop 102 (.iadd) 1 103 := ⟨DX7_ofLoop_c3.1, rfl⟩
theorem dX7_ofLoop_103 : Dc cX7_ofLoop 103 (.ireturn) 1 104 := ⟨DX7_ofLoop_c3.2.1, rfl⟩
theorem dX7_ofLoop_104 : Dc cX7_ofLoop 104 (.aload_n 0) 1 105 := ⟨DX7_ofLoop_c3.2.2.1, rfl⟩
theorem dX7_ofLoop_105 : Dc cX7_ofLoop 105 (.getfield 7) 3 108 := ⟨DX7_ofLoop_c3.2.2.2.1, rfl⟩
theorem dX7_ofLoop_108 : Dc cX7_ofLoop 108 (.iload 4) 2 110 := ⟨DX7_ofLoop_c3.2.2.2.2.1, rfl⟩
theorem dX7_ofLoop_110 : Dc cX7_ofLoop 110 (.iconst 1) 1 111 := ⟨DX7_ofLoop_c3.2.2.2.2.2.1, rfl⟩
theorem dX7_ofLoop_111 : Dc cX7_ofLoop 111 (.iadd) 1 112 := ⟨DX7_ofLoop_c3.2.2.2.2.2.2.1, rfl⟩
theorem dX7_ofLoop_112 : Dc cX7_ofLoop 112 (.iaload) 1 113 := ⟨DX7_ofLoop_c3.2.2.2.2.2.2.2.1, rfl⟩
theorem dX7_ofLoop_113 : Dc cX7_ofLoop 113 (.aload_n 0) 1 114 := ⟨DX7_ofLoop_c3.2.2.2.2.2.2.2.2.1, rfl⟩
theorem dX7_ofLoop_114 : Dc cX7_ofLoop 114 (.getfield 7) 3 117 := ⟨DX7_ofLoop_c3.2.2.2.2.2.2.2.2.2.1, rfl⟩
theorem dX7_ofLoop_117 : Dc cX7_ofLoop 117 (.sipush 213) 3 120 := ⟨DX7_ofLoop_c3.2.2.2.2.2.2.2.2.2.2.1, rfl⟩
theorem dX7_ofLoop_120 : Dc cX7_ofLoop 120 (.bipush 38) 2 122 := ⟨DX7_ofLoop_c3.2.2.2.2.2.2.2.2.2.2.2.1, rfl⟩
theorem dX7_ofLoop_122 : Dc cX7_ofLoop 122 (.iload_n 1) 1 123 := ⟨DX7_ofLoop_c3.2.2.2.2.2.2.2.2.2.2.2.2.1, rfl⟩
theorem dX7_ofLoop_123 : Dc cX7_ofLoop 123 (.imul) 1 124 := ⟨DX7_ofLoop_c3.2.2.2.2.2.2.2.2.2.2.2.2.2.1, rfl⟩
theorem dX7_ofLoop_124 : Dc cX7_ofLoop 124 (.iadd) 1 125 := ⟨DX7_ofLoop_c3.2.2.2.2.2.2.2.2.2.2.2.2.2.2.1, rfl⟩
theorem dX7_ofLoop_125 : Dc cX7_ofLoop 125 (.iconst 1) 1 126 := ⟨DX7_ofLoop_c3.2.2.2.2.2.2.2.2.2.2.2.2.2.2.2, rfl⟩
theorem DX7_ofLoop_c4 : decode cX7_ofLoop 126 = .ok (.iadd, 1) ∧ decode cX7_ofLoop 127 = .ok (.iaload, 1) ∧ decode cX7_ofLoop 128 = .ok (.iconst 1, 1) ∧ decode cX7_ofLoop 129 = .ok (.isub, 1) ∧ decode cX7_ofLoop 130 = .ok (.aload_n 0, 1) ∧ decode cX7_ofLoop 131 = .ok (.getfield 7, 3) ∧ decode cX7_ofLoop 134 = .ok (.iload 4, 2) ∧ decode cX7_ofLoop 136 = .ok (.iconst 2, 1) ∧ decode cX7_ofLoop 137 = .ok (.iadd, 1) ∧ decode cX7_ofLoop 138 = .ok (.iaload, 1) ∧ decode cX7_ofLoop 139 = .ok (.imul, 1) ∧ decode cX7_ofLoop 140 = .ok (.iadd, 1) ∧ decode cX7_ofLoop 141 = .ok (.sipush 10000, 3) ∧ decode cX7_ofLoop 144 = .ok (.iadd, 1) ∧ decode cX7_ofLoop 145 = .ok (.ireturn, 1) ∧ decode cX7_ofLoop 146 = .ok (.bipush (-2), 2) := by decide +kernel
theorem dX7_ofLoop_126 : Dc cX7_ofLoop 126 (.iadd) 1 127 := ⟨DX7_ofLoop_c4.1, rfl⟩
theorem dX7_ofLoop_127 : Dc cX7_ofLoop 127 (.iaload) 1 128 := ⟨DX7_ofLoop_c4.2.1, rfl⟩
theorem dX7_ofLoop_128 : Dc cX7_ofLoop 128 (.iconst 1) 1 129 := ⟨DX7_ofLoop_c4.2.2.1, rfl⟩
theorem dX7_ofLoop_129 : Dc cX7_ofLoop 129 (.isub) 1 130 := ⟨DX7_ofLoop_c4.2.2.2.1, rfl⟩
theorem dX7_ofLoop_130 : Dc cX7_ofLoop 130 (.aload_n 0) 1 131 := ⟨DX7_ofLoop_c4.2.2.2.2.1, rfl⟩
theorem dX7_ofLoop_131 : Dc cX7_ofLoop 131 (.getfield 7) 3 134 := ⟨DX7_ofLoop_c4.2.2.2.2.2.1, rfl⟩
theorem dX7_ofLoop_134 : Dc cX7_ofLoop 134 (.iload 4) 2 136 := ⟨DX7_ofLoop_c4.2.2.2.2.2.2.1, rfl⟩
theorem dX7_ofLoop_136 : Dc cX7_ofLoop 136 (.iconst 2) 1 137 := ⟨DX7_ofLoop_c4.2.2.2.2.2.2.2.1, rfl⟩
theorem dX7_ofLoop_137 : Dc cX7_ofLoop 137 (.iadd) 1 138 := ⟨DX7_ofLoop_c4.2.2.2.2.2.2.2.2.1, rfl⟩
theorem dX7_ofLoop_138 : Dc cX7_ofLoop 138 (.iaload) 1 139 := ⟨DX7_ofLoop_c4.2.2.2.2.2.2.2.2.2.1, rfl⟩
theorem dX7_ofLoop_139 : Dc cX7_ofLoop 139 (.imul) 1 140 := ⟨DX7_ofLoop_c4.2.2.2.2.2.2.2.2.2.2.1, rfl⟩
theorem dX7_ofLoop_140 : Dc cX7_ofLoop 140 (.iadd) 1 141 := ⟨DX7_ofLoop_c4.2.2.2.2.2.2.2.2.2.2.2.1, rfl⟩
theorem dX7_ofLoop_141 : Dc cX7_ofLoop 141 (.sipush 10000) 3 144 := ⟨DX7_ofLoop_c4.2.2.2.2.2.2.2.2.2.2.2.2.1, rfl⟩
theorem dX7_ofLoop_144 : Dc cX7_ofLoop 144 (.iadd) 1 145 := ⟨DX7_ofLoop_c4.2.2.2.2.2.2.2.2.2.2.2.2.2.1, rfl⟩
theorem dX7_ofLoop_145 : Dc cX7_ofLoop 145 (.ireturn) 1 146 := ⟨DX7_ofLoop_c4.2.2.2.2.2.2.2.2.2.2.2.2.2.2.1, rfl⟩
theorem dX7_ofLoop_146 : Dc cX7_ofLoop 146 (.bipush (-2)) 2 148 := ⟨DX7_ofLoop_c4.2.2.2.2.2.2.2.2.2.2.2.2.2.2.2, rfl⟩
theorem DX7_ofLoop_c5 : decode cX7_ofLoop 148 = .ok (.ireturn, 1) := by decide +kernel
theorem dX7_ofLoop_148 : Dc cX7_ofLoop 148 (.ireturn) 1 149 := ⟨DX7_ofLoop_c5, rfl⟩
theorem DX7_length_c0 : decode cX7_length 0 = .ok (.iload_n 2, 1) ∧ decode cX7_length 1 = .ok (.iconst 0, 1) ∧ decode cX7_length 2 = .ok (.iconst 2, 1) ∧ decode cX7_length 3 = .ok (.invokestatic 37, 3) ∧ decode cX7_length 6 = .ok (.ifCond .ne 6, 3) ∧ decode cX7_length 9 = .ok (.bipush (-2), 2) ∧ decode cX7_length 11 = .ok (.ireturn, 1) ∧ decode cX7_length 12 = .ok (.iload_n 2, 1) ∧ decode cX7_length 13 = .ok (.ifCond .ne 11, 3) ∧ decode cX7_length 16 = .ok (.aload_n 0, 1) ∧ decode cX7_length 17 = .ok (.iload_n 1, 1) ∧ decode cX7_length 18 = .ok (.invokevirtual 67, 3) ∧ decode cX7_length 21 = .ok (.goto 8, 3) ∧ decode cX7_length 24 = .ok (.aload_n 0, 1) ∧ decode cX7_length 25 = .ok (.iload_n 1, 1) ∧ decode cX7_length 26 = .ok (.invokevirtual 92, 3) := by decide +kernel
theorem dX7_length_0 : Dc cX7_length 0 (.iload_n 2) 1 1 := ⟨DX7_length_c0.1, rfl⟩
theorem dX7_length_1 : Dc cX7_length 1 (.iconst 0) 1 2 := ⟨DX7_length_c0.2.1, rfl⟩
theorem dX7_length_2 : Dc cX7_length 2 (.iconst 2) 1 3 := ⟨DX7_length_c0.2.2.1, rfl⟩
theorem dX7_length_3 : Dc cX7_length 3 (.invokestatic 37) 3 6 := ⟨DX7_length_c0.2.2.2.1, rfl⟩
theorem dX7_length_6 : Db cX7_length 6 (fun o => .ifCond .ne o) 9 12 := ⟨6, DX7_length_c0.2.2.2.2.1, rfl, rfl⟩
theorem dX7_length_9 : Dc cX7_length 9 (.bipush (-2)) 2 11 := ⟨DX7_length_c0.2.2.2.2.2.1, rfl⟩
theorem dX7_length_11 : Dc cX7_length 11 (.ireturn) 1 12 := ⟨DX7_length_c0.2.2.2.2.2.2.1, rfl⟩
theorem dX7_length_12 : Dc cX7_length 12 (.iload_n 2) 1 13 := ⟨DX7_length_c0.2.2.2.2.2.2.2.1, rfl⟩
theorem dX7_length_13 : Db cX7_length 13 (fun o => .ifCond .ne o) 16 24 := ⟨11, DX7_length_c0.2.2.2.2.2.2.2.2.1, rfl, rfl⟩
theorem dX7_length_16 : Dc cX7_length 16 (.aload_n 0) 1 17 := ⟨DX7_length_c0.2.2.2.2.2.2.2.2.2.1, rfl⟩
theorem dX7_length_17 : Dc cX7_length 17 (.iload_n 1) 1 18 := ⟨DX7_length_c0.2.2.2.2.2.2.2.2.2.2.1, rfl⟩
theorem dX7_length_18 : Dc cX7_length 18 (.invokevirtual 67) 3 21 := ⟨DX7_length_c0.2.2.2.2.2.2.2.2.2.2.2.1, rfl⟩
theorem dX7_length_21 : Db cX7_length 21 .goto 24 29 := ⟨8, DX7_length_c0.2.2.2.2.2.2.2.2.2.2.2.2.1, rfl, rfl⟩
theorem dX7_length_24 : Dc cX7_length 24 (.aload_n 0) 1 25 := ⟨DX7_length_c0.2.2.2.2.2.2.2.2.2.2.2.2.2.1, rfl⟩
theorem dX7_length_25 : Dc cX7_length 25 (.iload_n 1) 1 26 := ⟨DX7_length_c0.2.2.2.2.2.2.2.2.2.2.2.2.2.2.1, rfl⟩
theorem dX7_length_26 : Dc cX7_length 26 (.invokevirtual 92) 3 29 := ⟨DX7_length_c0.2.2.2.2.2.2.2.2.2.2.2.2.2.2.2, rfl⟩
theorem DX7_length_c1 : decode cX7_length 29 = .ok (.istore_n 3, 1) ∧ decode cX7_length 30 = .ok (.iload_n 3, 1) ∧ decode cX7_length 31 = .ok (.ifCond .ne 7, 3) ∧ decode cX7_length 34 = .ok (.iconst (-1), 1) ∧ decode cX7_length 35 = .ok (.goto 32, 3) ∧ decode cX7_length 38 = .ok (.iload_n 2, 1) ∧ decode cX7_length 39 = .ok (.ifCond .ne 11, 3) ∧ decode cX7_length 42 = .ok (.aload_n 0, 1) ∧ decode cX7_length 43 = .ok (.iload_n 1, 1) ∧ decode cX7_length 44 = .ok (.invokevirtual 60, 3) ∧ decode cX7_length 47 = .ok (.goto 20, 3) ∧ decode cX7_length 50 = .ok (.aload_n 0, 1) ∧ decode cX7_length 51 = .ok (.getfield 7, 3) ∧ decode cX7_length 54 = .ok (.sipush 213, 3) ∧ decode cX7_length 57 = .ok (.bipush 38, 2) ∧ decode cX7_length 59 = .ok (.iload_n 1, 1) := by decide +kernel
theorem dX7_length_29 : Dc cX7_length 29 (.istore_n 3) 1 30 := ⟨DX7_length_c1.1, rfl⟩
theorem dX7_length_30 : Dc cX7_length 30 (.iload_n 3) 1 31 := ⟨DX7_length_c1.2.1, rfl⟩
theorem dX7_length_31 : Db cX7_length 31 (fun o => .ifCond .ne o) 34 38 := ⟨7, DX7_length_c1.2.2.1, rfl, rfl⟩
theorem dX7_length_34 : Dc cX7_length 34 (.iconst (-1)) 1 35 := ⟨DX7_length_c1.2.2.2.1, rfl⟩
theorem dX7_length_35 : Db cX7_length 35 .goto 38 67 := ⟨32, DX7_length_c1.2.2.2.2.1, rfl, rfl⟩
theorem dX7_length_38 : Dc cX7_length 38 (.iload_n 2) 1 39 := ⟨DX7_length_c1.2.2.2.2.2.1, rfl⟩
theorem dX7_length_39 : Db cX7_length 39 (fun o => .ifCond .ne o) 42 50 := ⟨11, DX7_length_c1.2.2.2.2.2.2.1, rfl, rfl⟩
theorem dX7_length_42 : Dc cX7_length 42 (.aload_n 0) 1 43 := ⟨DX7_length_c1.2.2.2.2.2.2.2.1, rfl⟩
theorem dX7_length_43 : Dc cX7_length 43 (.iload_n 1) 1 44 := ⟨DX7_length_c1.2.2.2.2.2.2.2.2.1, rfl⟩
theorem dX7_length_44 : Dc cX7_length 44 (.invokevirtual 60) 3 47 := ⟨DX7_length_c1.2.2.2.2.2.2.2.2.2.1, rfl⟩
theorem dX7_length_47 : Db cX7_length 47 .goto 50 67 := ⟨20, DX7_length_c1.2.2.2.2.2.2.2.2.2.2.1, rfl, rfl⟩
theorem dX7_length_50 : Dc cX7_length 50 (.aload_n 0) 1 51 := ⟨DX7_length_c1.2.2.2.2.2.2.2.2.2.2.2.1, rfl⟩
theorem dX7_length_51 : Dc cX7_length 51 (.getfield 7) 3 54 := ⟨DX7_length_c1.2.2.2.2.2.2.2.2.2.2.2.2.1, rfl⟩
theorem dX7_length_54 : Dc cX7_length 54 (.sipush 213) 3 57 := ⟨DX7_length_c1.2.2.2.2.2.2.2.2.2.2.2.2.2.1, rfl⟩
theorem dX7_length_57 : Dc cX7_length 57 (.bipush 38) 2 59 := ⟨DX7_length_c1.2.2.2.2.2.2.2.2.2.2.2.2.2.2.1, rfl⟩
theorem dX7_length_59 : Dc cX7_length 59 (.iload_n 1) 1 60 := ⟨DX7_length_c1.2.2.2.2.2.2.2.2.2.2.2.2.2.2.2, rfl⟩
theorem DX7_length_c2 : decode cX7_length 60 = .ok (.imul, 1) ∧ decode cX7_length 61 = .ok (.iadd, 1) ∧ decode cX7_length 62 = .ok (.iload_n 2, 1) ∧ decode cX7_length 63 = .ok (.iadd, 1) ∧ decode cX7_length 64 = .ok (.iconst 1, 1) ∧ decode cX7_length 65 = .ok (.isub, 1) ∧ decode cX7_length 66 = .ok (.iaload, 1) ∧ decode cX7_length 67 = .ok (.ireturn, 1) := by decide +kernel
theorem dX7_length_60 : Dc cX7_length 60 (.imul) 1 61 := ⟨DX7_length_c2.1, rfl⟩
theorem dX7_length_61 : Dc cX7_length 61 (.iadd) 1 62 := ⟨DX7_length_c2.2.1, rfl⟩
theorem dX7_length_62 : Dc cX7_length 62 (.iload_n 2) 1 63 := ⟨DX7_length_c2.2.2.1, rfl⟩
theorem dX7_length_63 : Dc cX7_length 63 (.iadd) 1 64 := ⟨DX7_length_c2.2.2.2.1, rfl⟩
theorem dX7_length_64 : Dc cX7_length 64 (.iconst 1) 1 65 := ⟨DX7_length_c2.2.2.2.2.1, rfl⟩
theorem dX7_length_65 : Dc cX7_length 65 (.isub) 1 66 := ⟨DX7_length_c2.2.2.2.2.2.1, rfl⟩
theorem dX7_length_66 : Dc cX7_length 66 (.iaload) 1 67 := ⟨DX7_length_c2.2.2.2.2.2.2.1, rfl⟩
theorem dX7_length_67 : Dc cX7_length 67 (.ireturn) 1 68 := ⟨DX7_length_c2.2.2.2.2.2.2.2, rfl⟩
theorem DX7_sum_c0 : decode cX7_sum 0 = .ok (.iconst 0, 1) ∧ decode cX7_sum 1 = .ok (.istore_n 1, 1) ∧ decode cX7_sum 2 = .ok (.iconst 0, 1) ∧ decode cX7_sum 3 = .ok (.istore_n 2, 1) ∧ decode cX7_sum 4 = .ok (.iload_n 2, 1) ∧ decode cX7_sum 5 = .ok (.bipush 30, 2) ∧ decode cX7_sum 7 = .ok (.if_icmp .ge 18, 3) ∧ decode cX7_sum 10 = .ok (.iload_n 1, 1) ∧ decode cX7_sum 11 = .ok (.aload_n 0, 1) ∧ decode cX7_sum 12 = .ok (.getfield 7, 3) ∧ decode cX7_sum 15 = .ok (.iload_n 2, 1) ∧ decode cX7_sum 16 = .ok (.iaload, 1) ∧ decode cX7_sum 17 = .ok (.iadd, 1) ∧ decode cX7_sum 18 = .ok (.istore_n 1, 1) ∧ decode cX7_sum 19 = .ok (.iinc 2 1, 3) ∧ decode cX7_sum 22 = .ok (.goto (-18), 3) := by decide +kernel
theorem dX7_sum_0 : Dc cX7_sum 0 (.iconst 0) 1 1 := ⟨DX7_sum_c0.1, rfl⟩
theorem dX7_sum_1 : Dc cX7_sum 1 (.istore_n 1) 1 2 := ⟨DX7_sum_c0.2.1, rfl⟩
theorem dX7_sum_2 : Dc cX7_sum 2 (.iconst 0) 1 3 := ⟨DX7_sum_c0.2.2.1, rfl⟩
theorem dX7_sum_3 : Dc cX7_sum 3 (.istore_n 2) 1 4 := ⟨DX7_sum_c0.2.2.2.1, rfl⟩
theorem dX7_sum_4 : Dc cX7_sum 4 (.iload_n 2) 1 5 := ⟨DX7_sum_c0.2.2.2.2.1, rfl⟩
theorem dX7_sum_5 : Dc cX7_sum 5 (.bipush 30) 2 7 := ⟨DX7_sum_c0.2.2.2.2.2.1, rfl⟩
theorem dX7_sum_7 : Db cX7_sum 7 (fun o => .if_icmp .ge o) 10 25 := ⟨18, DX7_sum_c0.2.2.2.2.2.2.1, rfl, rfl⟩
theorem dX7_sum_10 : Dc cX7_sum 10 (.iload_n 1) 1 11 := ⟨DX7_sum_c0.2.2.2.2.2.2.2.1, rfl⟩
theorem dX7_sum_11 : Dc cX7_sum 11 (.aload_n 0) 1 12 := ⟨DX7_sum_c0.2.2.2.2.2.2.2.2.1, rfl⟩
theorem dX7_sum_12 : Dc cX7_sum 12 (.getfield 7) 3 15 := ⟨DX7_sum_c0.2.2.2.2.2.2.2.2.2.1, rfl⟩
theorem dX7_sum_15 : Dc cX7_sum 15 (.iload_n 2) 1 16 := ⟨DX7_sum_c0.2.2.2.2.2.2.2.2.2.2.1, rfl⟩
theorem dX7_sum_16 : Dc cX7_sum 16 (.iaload) 1 17 := ⟨DX7_sum_c0.2.2.2.2.2.2.2.2.2.2.2.1, rfl⟩
theorem dX7_sum_17 : Dc cX7_sum 17 (.iadd) 1 18 := ⟨DX7_sum_c0.2.2.2.2.2.2.2.2.2.2.2.2.1, rfl⟩
theorem dX7_sum_18 : Dc cX7_sum 18 (.istore_n 1) 1 19 := ⟨DX7_sum_c0.2.2.2.2.2.2.2.2.2.2.2.2.2.1, rfl⟩
theorem dX7_sum_19 : Dc cX7_sum 19 (.iinc 2 1) 3 22 := ⟨DX7_sum_c0.2.2.2.2.2.2.2.2.2.2.2.2.2.2.1, rfl⟩
theorem dX7_sum_22 : Db cX7_sum 22 .goto 25 4 := ⟨-18, DX7_sum_c0.2.2.2.2.2.2.2.2.2.2.2.2.2.2.2, rfl, rfl⟩
theorem DX7_sum_c1 : decode cX7_sum 25 = .ok (.iload_n 1, 1) ∧ decode cX7_sum 26 = .ok (.ireturn, 1) := by decide +kernel
theorem dX7_sum_25 : Dc cX7_sum 25 (.iload_n 1) 1 26 := ⟨DX7_sum_c1.1, rfl⟩
theorem dX7_sum_26 : Dc cX7_sum 26 (.ireturn) 1 27 := ⟨DX7_sum_c1.2, rfl⟩
theorem DX7_rowsOfVerbs_c0 : decode cX7_rowsOfVerbs 0 = .ok (.iconst 0, 1) ∧ decode cX7_rowsOfVerbs 1 = .ok (.istore_n 1, 1) ∧ decode cX7_rowsOfVerbs 2 = .ok (.iconst 0, 1) ∧ decode cX7_rowsOfVerbs 3 = .ok (.istore_n 2, 1) ∧ decode cX7_rowsOfVerbs 4 = .ok (.iload_n 2, 1) ∧ decode cX7_rowsOfVerbs 5 = .ok (.aload_n 0, 1) ∧ decode cX7_rowsOfVerbs 6 = .ok (.getfield 7, 3) ∧ decode cX7_rowsOfVerbs 9 = .ok (.bipush 31, 2) ∧ decode cX7_rowsOfVerbs 11 = .ok (.iaload, 1) ∧ decode cX7_rowsOfVerbs 12 = .ok (.if_icmp .ge 58, 3) ∧ decode cX7_rowsOfVerbs 15 = .ok (.iconst 1, 1) ∧ decode cX7_rowsOfVerbs 16 = .ok (.istore_n 3, 1) ∧ decode cX7_rowsOfVerbs 17 = .ok (.iconst 0, 1) ∧ decode cX7_rowsOfVerbs 18 = .ok (.istore 4, 2) ∧ decode cX7_rowsOfVerbs 20 = .ok (.iload 4, 2) ∧ decode cX7_rowsOfVerbs 22 = .ok (.iload_n 2, 1) := by decide +kernel
theorem dX7_rowsOfVerbs_0 : Dc cX7_rowsOfVerbs 0 (.iconst 0) 1 1 := ⟨DX7_rowsOfVerbs_c0.1, rfl⟩
theorem dX7_rowsOfVerbs_1 : Dc cX7_rowsOfVerbs 1 (.istore_n 1) 1 2 := ⟨DX7_rowsOfVerbs_c0.2.1, rfl⟩
theorem dX7_rowsOfVerbs_2 : Dc cX7_rowsOfVerbs 2 (.iconst 0) 1 3 := ⟨DX7_rowsOfVerbs_c0.2.2.1, rfl⟩
theorem dX7_rowsOfVerbs_3 : Dc cX7_rowsOfVerbs 3 (.istore_n 2) 1 4 := ⟨DX7_rowsOfVerbs_c0.2.2.2.1, rfl⟩
theorem dX7_rowsOfVerbs_4 : Dc cX7_rowsOfVerbs 4 (.iload_n 2) 1 5 := ⟨DX7_rowsOfVerbs_c0.2.2.2.2.1, rfl⟩
theorem dX7_rowsOfVerbs_5 : Dc cX7_rowsOfVerbs 5 (.aload_n 0) 1 6 := ⟨DX7_rowsOfVerbs_c0.2.2.2.2.2.1, rfl⟩
theorem dX7_rowsOfVerbs_6 : Dc cX7_rowsOfVerbs 6 (.getfield 7) 3 9 := ⟨DX7_rowsOfVerbs_c0.2.2.2.2.2.2.1, rfl⟩
theorem dX7_rowsOfVerbs_9 : Dc cX7_rowsOfVerbs 9 (.bipush 31) 2 11 := ⟨DX7_rowsOfVerbs_c0.2.2.2.2.2.2.2.1, rfl⟩
theorem dX7_rowsOfVerbs_11 : Dc cX7_rowsOfVerbs 11 (.iaload) 1 12 := ⟨DX7_rowsOfVerbs_c0.2.2.2.2.2.2.2.2.1, rfl⟩
theorem dX7_rowsOfVerbs_12 : Db cX7_rowsOfVerbs 12 (fun o => .if_icmp .ge o) 15 70 := ⟨58, DX7_rowsOfVerbs_c0.2.2.2.2.2.2.2.2.2.1, rfl, rfl⟩
theorem dX7_rowsOfVerbs_15 : Dc cX7_rowsOfVerbs 15 (.iconst 1) 1 16 := ⟨DX7_rowsOfVerbs_c0.2.2.2.2.2.2.2.2.2.2.1, rfl⟩
theorem dX7_rowsOfVerbs_16 : Dc cX7_rowsOfVerbs 16 (.istore_n 3) 1 17 := ⟨DX7_rowsOfVerbs_c0.2.2.2.2.2.2.2.2.2.2.2.1, rfl⟩
theorem dX7_rowsOfVerbs_17 : Dc cX7_rowsOfVerbs 17 (.iconst 0) 1 18 := ⟨DX7_rowsOfVerbs_c0.2.2.2.2.2.2.2.2.2.2.2.2.1, rfl⟩
theorem dX7_rowsOfVerbs_18 : Dc cX7_rowsOfVerbs 18 (.istore 4) 2 20 := ⟨DX7_rowsOfVerbs_c0.2.2.2.2.2.2.2.2.2.2.2.2.2.1, rfl⟩
theorem dX7_rowsOfVerbs_20 : Dc cX7_rowsOfVerbs 20 (.iload 4) 2 22 := ⟨DX7_rowsOfVerbs_c0.2.2.2.2.2.2.2.2.2.2.2.2.2.2.1, rfl⟩
theorem dX7_rowsOfVerbs_22 : Dc cX7_rowsOfVerbs 22 (.iload_n 2) 1 23 := ⟨DX7_rowsOfVerbs_c0.2.2.2.2.2.2.2.2.2.2.2.2.2.2.2, rfl⟩
theorem DX7_rowsOfVerbs_c1 : decode cX7_rowsOfVerbs 23 = .ok (.if_icmp .ge 29, 3) ∧ decode cX7_rowsOfVerbs 26 = .ok (.iload_n 3, 1) ∧ decode cX7_rowsOfVerbs 27 = .ok (.ifCond .eq 17, 3) ∧ decode cX7_rowsOfVerbs 30 = .ok (.aload_n 0, 1) ∧ decode cX7_rowsOfVerbs 31 = .ok (.iload_n 2, 1) ∧ decode cX7_rowsOfVerbs 32 = .ok (.iload 4, 2) ∧ decode cX7_rowsOfVerbs 34 = .ok (.invokevirtual 78, 3) ∧ decode cX7_rowsOfVerbs 37 = .ok (.ifCond .ne 7, 3) ∧ decode cX7_rowsOfVerbs 40 = .ok (.iconst 1, 1) ∧ decode cX7_rowsOfVerbs 41 = .ok (.goto 4, 3) ∧ decode cX7_rowsOfVerbs 44 = .ok (.iconst 0, 1) ∧ decode cX7_rowsOfVerbs 45 = .ok (.istore_n 3, 1) ∧ decode cX7_rowsOfVerbs 46 = .ok (.iinc 4 1, 3) ∧ decode cX7_rowsOfVerbs 49 = .ok (.goto (-29), 3) ∧ decode cX7_rowsOfVerbs 52 = .ok (.iload_n 1, 1) ∧ decode cX7_rowsOfVerbs 53 = .ok (.iload_n 3, 1) := by decide +kernel
theorem dX7_rowsOfVerbs_23 : Db cX7_rowsOfVerbs 23 (fun o => .if_icmp .ge o) 26 52 := ⟨29, DX7_rowsOfVerbs_c1.1, rfl, rfl⟩
theorem dX7_rowsOfVerbs_26 : Dc cX7_rowsOfVerbs 26 (.iload_n 3) 1 27 := ⟨DX7_rowsOfVerbs_c1.2.1, rfl⟩
theorem dX7_rowsOfVerbs_27 : Db cX7_rowsOfVerbs 27 (fun o => .ifCond .eq o) 30 44 := ⟨17, DX7_rowsOfVerbs_c1.2.2.1, rfl, rfl⟩
theorem dX7_rowsOfVerbs_30 : Dc cX7_rowsOfVerbs 30 (.aload_n 0) 1 31 := ⟨DX7_rowsOfVerbs_c1.2.2.2.1, rfl⟩
theorem dX7_rowsOfVerbs_31 : Dc cX7_rowsOfVerbs 31 (.iload_n 2) 1 32 := ⟨DX7_rowsOfVerbs_c1.2.2.2.2.1, rfl⟩
theorem dX7_rowsOfVerbs_32 : Dc cX7_rowsOfVerbs 32 (.iload 4) 2 34 := ⟨DX7_rowsOfVerbs_c1.2.2.2.2.2.1, rfl⟩
theorem dX7_rowsOfVerbs_34 : Dc cX7_rowsOfVerbs 34 (.invokevirtual 78) 3 37 := ⟨DX7_rowsOfVerbs_c1.2.2.2.2.2.2.1, rfl⟩
theorem dX7_rowsOfVerbs_37 : Db cX7_rowsOfVerbs 37 (fun o => .ifCond .ne o) 40 44 := ⟨7, DX7_rowsOfVerbs_c1.2.2.2.2.2.2.2.1, rfl, rfl⟩
theorem dX7_rowsOfVerbs_40 : Dc cX7_rowsOfVerbs 40 (.iconst 1) 1 41 := ⟨DX7_rowsOfVerbs_c1.2.2.2.2.2.2.2.2.1, rfl⟩
theorem dX7_rowsOfVerbs_41 : Db cX7_rowsOfVerbs 41 .goto 44 45 := ⟨4, DX7_rowsOfVerbs_c1.2.2.2.2.2.2.2.2.2.1, rfl, rfl⟩
theorem dX7_rowsOfVerbs_44 : Dc cX7_rowsOfVerbs 44 (.iconst 0) 1 45 := ⟨DX7_rowsOfVerbs_c1.2.2.2.2.2.2.2.2.2.2.1, rfl⟩
theorem dX7_rowsOfVerbs_45 : Dc cX7_rowsOfVerbs 45 (.istore_n 3) 1 46 := ⟨DX7_rowsOfVerbs_c1.2.2.2.2.2.2.2.2.2.2.2.1, rfl⟩
theorem dX7_rowsOfVerbs_46 : Dc cX7_rowsOfVerbs 46 (.iinc 4 1) 3 49 := ⟨DX7_rowsOfVerbs_c1.2.2.2.2.2.2.2.2.2.2.2.2.1, rfl⟩
theorem dX7_rowsOfVerbs_49 : Db cX7_rowsOfVerbs 49 .goto 52 20 := ⟨-29, DX7_rowsOfVerbs_c1.2.2.2.2.2.2.2.2.2.2.2.2.2.1, rfl, rfl⟩
theorem dX7_rowsOfVerbs_52 : Dc cX7_rowsOfVerbs 52 (.iload_n 1) 1 53 := ⟨DX7_rowsOfVerbs_c1.2.2.2.2.2.2.2.2.2.2.2.2.2.2.1, rfl⟩
theorem dX7_rowsOfVerbs_53 : Dc cX7_rowsOfVerbs 53 (.iload_n 3) 1 54 := ⟨DX7_rowsOfVerbs_c1.2.2.2.2.2.2.2.2.2.2.2.2.2.2.2, rfl⟩
theorem DX7_rowsOfVerbs_c2 : decode cX7_rowsOfVerbs 54 = .ok (.ifCond .eq 7, 3) ∧ decode cX7_rowsOfVerbs 57 = .ok (.iconst 1, 1) ∧ decode cX7_rowsOfVerbs 58 = .ok (.goto 4, 3) ∧ decode cX7_rowsOfVerbs 61 = .ok (.iconst 0, 1) ∧ decode cX7_rowsOfVerbs 62 = .ok (.iadd, 1) ∧ decode cX7_rowsOfVerbs 63 = .ok (.istore_n 1, 1) ∧ decode cX7_rowsOfVerbs 64 = .ok (.iinc 2 1, 3) ∧ decode cX7_rowsOfVerbs 67 = .ok (.goto (-63), 3) ∧ decode cX7_rowsOfVerbs 70 = .ok (.iload_n 1, 1) ∧ decode cX7_rowsOfVerbs 71 = .ok (.ireturn, 1) := by decide +kernel
theorem dX7_rowsOfVerbs_54 : Db cX7_rowsOfVerbs 54 (fun o => .ifCond .eq o) 57 61 := ⟨7, DX7_rowsOfVerbs_c2.1, rfl, rfl⟩
theorem dX7_rowsOfVerbs_57 : Dc cX7_rowsOfVerbs 57 (.iconst 1) 1 58 := ⟨DX7_rowsOfVerbs_c2.2.1, rfl⟩
theorem dX7_rowsOfVerbs_58 : Db cX7_rowsOfVerbs 58 .goto 61 62 := ⟨4, DX7_rowsOfVerbs_c2.2.2.1, rfl, rfl⟩
theorem dX7_rowsOfVerbs_61 : Dc cX7_rowsOfVerbs 61 (.iconst 0) 1 62 := ⟨DX7_rowsOfVerbs_c2.2.2.2.1, rfl⟩
theorem dX7_rowsOfVerbs_62 : Dc cX7_rowsOfVerbs 62 (.iadd) 1 63 := ⟨DX7_rowsOfVerbs_c2.2.2.2.2.1, rfl⟩
theorem dX7_rowsOfVerbs_63 : Dc cX7_rowsOfVerbs 63 (.istore_n 1) 1 64 := ⟨DX7_rowsOfVerbs_c2.2.2.2.2.2.1, rfl⟩
theorem dX7_rowsOfVerbs_64 : Dc cX7_rowsOfVerbs 64 (.iinc 2 1) 3 67 := ⟨DX7_rowsOfVerbs_c2.2.2.2.2.2.2.1, rfl⟩
theorem dX7_rowsOfVerbs_67 : Db cX7_rowsOfVerbs 67 .goto 70 4 := ⟨-63, DX7_rowsOfVerbs_c2.2.2.2.2.2.2.2.1, rfl, rfl⟩
theorem dX7_rowsOfVerbs_70 : Dc cX7_rowsOfVerbs 70 (.iload_n 1) 1 71 := ⟨DX7_rowsOfVerbs_c2.2.2.2.2.2.2.2.2.1, rfl⟩
theorem dX7_rowsOfVerbs_71 : Dc cX7_rowsOfVerbs 71 (.ireturn) 1 72 := ⟨DX7_rowsOfVerbs_c2.2.2.2.2.2.2.2.2.2, rfl⟩
theorem DX7_total_c0 : decode cX7_total 0 = .ok (.iload_n 1, 1) ∧ decode cX7_total 1 = .ok (.tableswitch 139 0 11 #[63, 71, 76, 84, 112, 112, 112, 112, 112, 124, 129, 134], 63) ∧ decode cX7_total 64 = .ok (.aload_n 0, 1) ∧ decode cX7_total 65 = .ok (.getfield 7, 3) ∧ decode cX7_total 68 = .ok (.bipush 30, 2) ∧ decode cX7_total 70 = .ok (.iaload, 1) ∧ decode cX7_total 71 = .ok (.ireturn, 1) ∧ decode cX7_total 72 = .ok (.aload_n 0, 1) ∧ decode cX7_total 73 = .ok (.invokevirtual 141, 3) ∧ decode cX7_total 76 = .ok (.ireturn, 1) ∧ decode cX7_total 77 = .ok (.aload_n 0, 1) ∧ decode cX7_total 78 = .ok (.getfield 7, 3) ∧ decode cX7_total 81 = .ok (.bipush 31, 2) ∧ decode cX7_total 83 = .ok (.iaload, 1) ∧ decode cX7_total 84 = .ok (.ireturn, 1) ∧ decode cX7_total 85 = .ok (.aload_n 0, 1) := by decide +kernel
theorem dX7_total_0 : Dc cX7_total 0 (.iload_n 1) 1 1 := ⟨DX7_total_c0.1, rfl⟩
theorem dX7_total_1 : decode cX7_total 1 = .ok (.tableswitch 139 0 11 #[63, 71, 76, 84, 112, 112, 112, 112, 112, 124, 129, 134], 63) := DX7_total_c0.2.1
theorem dX7_total_64 : Dc cX7_total 64 (.aload_n 0) 1 65 := ⟨DX7_total_c0.2.2.1, rfl⟩
theorem dX7_total_65 : Dc cX7_total 65 (.getfield 7) 3 68 := ⟨DX7_total_c0.2.2.2.1, rfl⟩
theorem dX7_total_68 : Dc cX7_total 68 (.bipush 30) 2 70 := ⟨DX7_total_c0.2.2.2.2.1, rfl⟩
theorem dX7_total_70 : Dc cX7_total 70 (.iaload) 1 71 := ⟨DX7_total_c0.2.2.2.2.2.1, rfl⟩
theorem dX7_total_71 : Dc cX7_total 71 (.ireturn) 1 72 := ⟨DX7_total_c0.2.2.2.2.2.2.1, rfl⟩
theorem dX7_total_72 : Dc cX7_total 72 (.aload_n 0) 1 73 := ⟨DX7_total_c0.2.2.2.2.2.2.2.1, rfl⟩
theorem dX7_total_73 : Dc cX7_total 73 (.invokevirtual 141) 3 76 := ⟨DX7_total_c0.2.2.2.2.2.2.2.2.1, rfl⟩
theorem dX7_total_76 : Dc cX7_total 76 (.ireturn) 1 77 := ⟨DX7_total_c0.2.2.2.2.2.2.2.2.2.1, rfl⟩
theorem dX7_total_77 : Dc cX7_total 77 (.aload_n 0) 1 78 := ⟨DX7_total_c0.2.2.2.2.2.2.2.2.2.2.1, rfl⟩
theorem dX7_total_78 : Dc cX7_total 78 (.getfield 7) 3 81 := ⟨DX7_total_c0.2.2.2.2.2.2.2.2.2.2.2.1, rfl⟩
theorem dX7_total_81 : Dc cX7_total 81 (.bipush 31) 2 83 := ⟨DX7_total_c0.2.2.2.2.2.2.2.2.2.2.2.2.1, rfl⟩
theorem dX7_total_83 : Dc cX7_total 83 (.iaload) 1 84 := ⟨DX7_total_c0.2.2.2.2.2.2.2.2.2.2.2.2.2.1, rfl⟩
theorem dX7_total_84 : Dc cX7_total 84 (.ireturn) 1 85 := ⟨DX7_total_c0.2.2.2.2.2.2.2.2.2.2.2.2.2.2.1, rfl⟩
theorem dX7_total_85 : Dc cX7_total 85 (.aload_n 0) 1 86 := ⟨DX7_total_c0.2.2.2.2.2.2.2.2.2.2.2.2.2.2.2, rfl⟩
theorem DX7_total_c1 : decode cX7_total 86 = .ok (.getfield 7, 3) ∧ decode cX7_total 89 = .ok (.bipush 32, 2) ∧ decode cX7_total 91 = .ok (.iaload, 1) ∧ decode cX7_total 92 = .ok (.iconst 1, 1) ∧ decode cX7_total 93 = .ok (.if_icmp .ne 17, 3) ∧ decode cX7_total 96 = .ok (.aload_n 0, 1) ∧ decode cX7_total 97 = .ok (.aload_n 0, 1) ∧ decode cX7_total 98 = .ok (.getfield 7, 3) ∧ decode cX7_total 101 = .ok (.bipush 31, 2) ∧ decode cX7_total 103 = .ok (.iaload, 1) ∧ decode cX7_total 104 = .ok (.invokevirtual 60, 3) ∧ decode cX7_total 107 = .ok (.goto 5, 3) ∧ decode cX7_total 110 = .ok (.bipush (-5), 2) ∧ decode cX7_total 112 = .ok (.ireturn, 1) ∧ decode cX7_total 113 = .ok (.aload_n 0, 1) ∧ decode cX7_total 114 = .ok (.getfield 7, 3) := by decide +kernel
theorem dX7_total_86 : Dc cX7_total 86 (.getfield 7) 3 89 := ⟨DX7_total_c1.1, rfl⟩
theorem dX7_total_89 : Dc cX7_total 89 (.bipush 32) 2 91 := ⟨DX7_total_c1.2.1, rfl⟩
theorem dX7_total_91 : Dc cX7_total 91 (.iaload) 1 92 := ⟨DX7_total_c1.2.2.1, rfl⟩
theorem dX7_total_92 : Dc cX7_total 92 (.iconst 1) 1 93 := ⟨DX7_total_c1.2.2.2.1, rfl⟩
theorem dX7_total_93 : Db cX7_total 93 (fun o => .if_icmp .ne o) 96 110 := ⟨17, DX7_total_c1.2.2.2.2.1, rfl, rfl⟩
theorem dX7_total_96 : Dc cX7_total 96 (.aload_n 0) 1 97 := ⟨DX7_total_c1.2.2.2.2.2.1, rfl⟩
theorem dX7_total_97 : Dc cX7_total 97 (.aload_n 0) 1 98 := ⟨DX7_total_c1.2.2.2.2.2.2.1, rfl⟩
theorem dX7_total_98 : Dc cX7_total 98 (.getfield 7) 3 101 := ⟨DX7_total_c1.2.2.2.2.2.2.2.1, rfl⟩
theorem dX7_total_101 : Dc cX7_total 101 (.bipush 31) 2 103 := ⟨DX7_total_c1.2.2.2.2.2.2.2.2.1, rfl⟩
theorem dX7_total_103 : Dc cX7_total 103 (.iaload) 1 104 := ⟨DX7_total_c1.2.2.2.2.2.2.2.2.2.1, rfl⟩
theorem dX7_total_104 : Dc cX7_total 104 (.invokevirtual 60) 3 107 := ⟨DX7_total_c1.2.2.2.2.2.2.2.2.2.2.1, rfl⟩
theorem dX7_total_107 : Db cX7_total 107 .goto 110 112 := ⟨5, DX7_total_c1.2.2.2.2.2.2.2.2.2.2.2.1, rfl, rfl⟩
theorem dX7_total_110 : Dc cX7_total 110 (.bipush (-5)) 2 112 := ⟨DX7_total_c1.2.2.2.2.2.2.2.2.2.2.2.2.1, rfl⟩
theorem dX7_total_112 : Dc cX7_total 112 (.ireturn) 1 113 := ⟨DX7_total_c1.2.2.2.2.2.2.2.2.2.2.2.2.2.1, rfl⟩
theorem dX7_total_113 : Dc cX7_total 113 (.aload_n 0) 1 114 := ⟨DX7_total_c1.2.2.2.2.2.2.2.2.2.2.2.2.2.2.1, rfl⟩
theorem dX7_total_114 : Dc cX7_total 114 (.getfield 7) 3 117 := ⟨DX7_total_c1.2.2.2.2.2.2.2.2.2.2.2.2.2.2.2, rfl⟩
theorem DX7_total_c2 : decode cX7_total 117 = .ok (.bipush 33, 2) ∧ decode cX7_total 119 = .ok (.iload_n 1, 1) ∧ decode cX7_total 120 = .ok (.iadd, 1) ∧ decode cX7_total 121 = .ok (.iconst 4, 1) ∧ decode cX7_total 122 = .ok (.isub, 1) ∧ decode cX7_total 123 = .ok (.iaload, 1) ∧ decode cX7_total 124 = .ok (.ireturn, 1) ∧ decode cX7_total 125 = .ok (.aload_n 0, 1) ∧ decode cX7_total 126 = .ok (.invokevirtual 144, 3) ∧ decode cX7_total 129 = .ok (.ireturn, 1) ∧ decode cX7_total 130 = .ok (.aload_n 0, 1) ∧ decode cX7_total 131 = .ok (.getfield 41, 3) ∧ decode cX7_total 134 = .ok (.ireturn, 1) ∧ decode cX7_total 135 = .ok (.aload_n 0, 1) ∧ decode cX7_total 136 = .ok (.getfield 112, 3) ∧ decode cX7_total 139 = .ok (.ireturn, 1) := by decide +kernel
theorem dX7_total_117 : Dc cX7_total 117 (.bipush 33) 2 119 := ⟨DX7_total_c2.1, rfl⟩
theorem dX7_total_119 : Dc cX7_total 119 (.iload_n 1) 1 120 := ⟨DX7_total_c2.2.1, rfl⟩
theorem dX7_total_120 : Dc cX7_total 120 (.iadd) 1 121 := ⟨DX7_total_c2.2.2.1, rfl⟩
theorem dX7_total_121 : Dc cX7_total 121 (.iconst 4) 1 122 := ⟨DX7_total_c2.2.2.2.1, rfl⟩
theorem dX7_total_122 : Dc cX7_total 122 (.isub) 1 123 := ⟨DX7_total_c2.2.2.2.2.1, rfl⟩
theorem dX7_total_123 : Dc cX7_total 123 (.iaload) 1 124 := ⟨DX7_total_c2.2.2.2.2.2.1, rfl⟩
theorem dX7_total_124 : Dc cX7_total 124 (.ireturn) 1 125 := ⟨DX7_total_c2.2.2.2.2.2.2.1, rfl⟩
theorem dX7_total_125 : Dc cX7_total 125 (.aload_n 0) 1 126 := ⟨DX7_total_c2.2.2.2.2.2.2.2.1, rfl⟩
theorem dX7_total_126 : Dc cX7_total 126 (.invokevirtual 144) 3 129 := ⟨DX7_total_c2.2.2.2.2.2.2.2.2.1, rfl⟩
theorem dX7_total_129 : Dc cX7_total 129 (.ireturn) 1 130 := ⟨DX7_total_c2.2.2.2.2.2.2.2.2.2.1, rfl⟩
theorem dX7_total_130 : Dc cX7_total 130 (.aload_n 0) 1 131 := ⟨DX7_total_c2.2.2.2.2.2.2.2.2.2.2.1, rfl⟩
theorem dX7_total_131 : Dc cX7_total 131 (.getfield 41) 3 134 := ⟨DX7_total_c2.2.2.2.2.2.2.2.2.2.2.2.1, rfl⟩
theorem dX7_total_134 : Dc cX7_total 134 (.ireturn) 1 135 := ⟨DX7_total_c2.2.2.2.2.2.2.2.2.2.2.2.2.1, rfl⟩
theorem dX7_total_135 : Dc cX7_total 135 (.aload_n 0) 1 136 := ⟨DX7_total_c2.2.2.2.2.2.2.2.2.2.2.2.2.2.1, rfl⟩
theorem dX7_total_136 : Dc cX7_total 136 (.getfield 112) 3 139 := ⟨DX7_total_c2.2.2.2.2.2.2.2.2.2.2.2.2.2.2.1, rfl⟩
theorem dX7_total_139 : Dc cX7_total 139 (.ireturn) 1 140 := ⟨DX7_total_c2.2.2.2.2.2.2.2.2.2.2.2.2.2.2.2, rfl⟩
theorem DX7_total_c3 : decode cX7_total 140 = .ok (.bipush (-2), 2) ∧ decode cX7_total 142 = .ok (.ireturn, 1) := by decide +kernel
theorem dX7_total_140 : Dc cX7_total 140 (.bipush (-2)) 2 142 := ⟨DX7_total_c3.1, rfl⟩
theorem dX7_total_142 : Dc cX7_total 142 (.ireturn) 1 143 := ⟨DX7_total_c3.2, rfl⟩
theorem DX7_alike_c0 : decode cX7_alike 0 = .ok (.aload_n 0, 1) ∧ decode cX7_alike 1 = .ok (.iload_n 1, 1) ∧ decode cX7_alike 2 = .ok (.invokevirtual 67, 3) ∧ decode cX7_alike 5 = .ok (.ifCond .eq 11, 3) ∧ decode cX7_alike 8 = .ok (.aload_n 0, 1) ∧ decode cX7_alike 9 = .ok (.iload_n 2, 1) ∧ decode cX7_alike 10 = .ok (.invokevirtual 67, 3) ∧ decode cX7_alike 13 = .ok (.ifCond .ne 5, 3) ∧ decode cX7_alike 16 = .ok (.iconst (-1), 1) ∧ decode cX7_alike 17 = .ok (.ireturn, 1) ∧ decode cX7_alike 18 = .ok (.iload_n 3, 1) ∧ decode cX7_alike 19 = .ok (.iconst 0, 1) ∧ decode cX7_alike 20 = .ok (.iconst 1, 1) ∧ decode cX7_alike 21 = .ok (.invokestatic 37, 3) ∧ decode cX7_alike 24 = .ok (.ifCond .ne 6, 3) ∧ decode cX7_alike 27 = .ok (.bipush (-2), 2) := by decide +kernel
theorem dX7_alike_0 : Dc cX7_alike 0 (.aload_n 0) 1 1 := ⟨DX7_alike_c0.1, rfl⟩
theorem dX7_alike_1 : Dc cX7_alike 1 (.iload_n 1) 1 2 := ⟨DX7_alike_c0.2.1, rfl⟩
theorem dX7_alike_2 : Dc cX7_alike 2 (.invokevirtual 67) 3 5 := ⟨DX7_alike_c0.2.2.1, rfl⟩
theorem dX7_alike_5 : Db cX7_alike 5 (fun o => .ifCond .eq o) 8 16 := ⟨11, DX7_alike_c0.2.2.2.1, rfl, rfl⟩
theorem dX7_alike_8 : Dc cX7_alike 8 (.aload_n 0) 1 9 := ⟨DX7_alike_c0.2.2.2.2.1, rfl⟩
theorem dX7_alike_9 : Dc cX7_alike 9 (.iload_n 2) 1 10 := ⟨DX7_alike_c0.2.2.2.2.2.1, rfl⟩
theorem dX7_alike_10 : Dc cX7_alike 10 (.invokevirtual 67) 3 13 := ⟨DX7_alike_c0.2.2.2.2.2.2.1, rfl⟩
theorem dX7_alike_13 : Db cX7_alike 13 (fun o => .ifCond .ne o) 16 18 := ⟨5, DX7_alike_c0.2.2.2.2.2.2.2.1, rfl, rfl⟩
theorem dX7_alike_16 : Dc cX7_alike 16 (.iconst (-1)) 1 17 := ⟨DX7_alike_c0.2.2.2.2.2.2.2.2.1, rfl⟩
theorem dX7_alike_17 : Dc cX7_alike 17 (.ireturn) 1 18 := ⟨DX7_alike_c0.2.2.2.2.2.2.2.2.2.1, rfl⟩
theorem dX7_alike_18 : Dc cX7_alike 18 (.iload_n 3) 1 19 := ⟨DX7_alike_c0.2.2.2.2.2.2.2.2.2.2.1, rfl⟩
theorem dX7_alike_19 : Dc cX7_alike 19 (.iconst 0) 1 20 := ⟨DX7_alike_c0.2.2.2.2.2.2.2.2.2.2.2.1, rfl⟩
theorem dX7_alike_20 : Dc cX7_alike 20 (.iconst 1) 1 21 := ⟨DX7_alike_c0.2.2.2.2.2.2.2.2.2.2.2.2.1, rfl⟩
theorem dX7_alike_21 : Dc cX7_alike 21 (.invokestatic 37) 3 24 := ⟨DX7_alike_c0.2.2.2.2.2.2.2.2.2.2.2.2.2.1, rfl⟩
theorem dX7_alike_24 : Db cX7_alike 24 (fun o => .ifCond .ne o) 27 30 := ⟨6, DX7_alike_c0.2.2.2.2.2.2.2.2.2.2.2.2.2.2.1, rfl, rfl⟩
theorem dX7_alike_27 : Dc cX7_alike 27 (.bipush (-2)) 2 29 := ⟨DX7_alike_c0.2.2.2.2.2.2.2.2.2.2.2.2.2.2.2, rfl⟩
theorem DX7_alike_c1 : decode cX7_alike 29 = .ok (.ireturn, 1) ∧ decode cX7_alike 30 = .ok (.iconst 0, 1) ∧ decode cX7_alike 31 = .ok (.istore 4, 2) ∧ decode cX7_alike 33 = .ok (.iload 4, 2) ∧ decode cX7_alike 35 = .ok (.aload_n 0, 1) ∧ decode cX7_alike 36 = .ok (.iload_n 1, 1) ∧ decode cX7_alike 37 = .ok (.invokevirtual 60, 3) ∧ decode cX7_alike 40 = .ok (.if_icmp .gt 186, 3) ∧ decode cX7_alike 43 = .ok (.iconst 0, 1) ∧ decode cX7_alike 44 = .ok (.istore 5, 2) ∧ decode cX7_alike 46 = .ok (.iload 5, 2) ∧ decode cX7_alike 48 = .ok (.aload_n 0, 1) ∧ decode cX7_alike 49 = .ok (.iload_n 2, 1) ∧ decode cX7_alike 50 = .ok (.invokevirtual 60, 3) ∧ decode cX7_alike 53 = .ok (.if_icmp .gt 167, 3) ∧ decode cX7_alike 56 = .ok (.iconst 0, 1) := by decide +kernel
theorem dX7_alike_29 : Dc cX7_alike 29 (.ireturn) 1 30 := ⟨DX7_alike_c1.1, rfl⟩
theorem dX7_alike_30 : Dc cX7_alike 30 (.iconst 0) 1 31 := ⟨DX7_alike_c1.2.1, rfl⟩
theorem dX7_alike_31 : Dc cX7_alike 31 (.istore 4) 2 33 := ⟨DX7_alike_c1.2.2.1, rfl⟩
theorem dX7_alike_33 : Dc cX7_alike 33 (.iload 4) 2 35 := ⟨DX7_alike_c1.2.2.2.1, rfl⟩
theorem dX7_alike_35 : Dc cX7_alike 35 (.aload_n 0) 1 36 := ⟨DX7_alike_c1.2.2.2.2.1, rfl⟩
theorem dX7_alike_36 : Dc cX7_alike 36 (.iload_n 1) 1 37 := ⟨DX7_alike_c1.2.2.2.2.2.1, rfl⟩
theorem dX7_alike_37 : Dc cX7_alike 37 (.invokevirtual 60) 3 40 := ⟨DX7_alike_c1.2.2.2.2.2.2.1, rfl⟩
theorem dX7_alike_40 : Db cX7_alike 40 (fun o => .if_icmp .gt o) 43 226 := ⟨186, DX7_alike_c1.2.2.2.2.2.2.2.1, rfl, rfl⟩
theorem dX7_alike_43 : Dc cX7_alike 43 (.iconst 0) 1 44 := ⟨DX7_alike_c1.2.2.2.2.2.2.2.2.1, rfl⟩
theorem dX7_alike_44 : Dc cX7_alike 44 (.istore 5) 2 46 := ⟨DX7_alike_c1.2.2.2.2.2.2.2.2.2.1, rfl⟩
theorem dX7_alike_46 : Dc cX7_alike 46 (.iload 5) 2 48 := ⟨DX7_alike_c1.2.2.2.2.2.2.2.2.2.2.1, rfl⟩
theorem dX7_alike_48 : Dc cX7_alike 48 (.aload_n 0) 1 49 := ⟨DX7_alike_c1.2.2.2.2.2.2.2.2.2.2.2.1, rfl⟩
theorem dX7_alike_49 : Dc cX7_alike 49 (.iload_n 2) 1 50 := ⟨DX7_alike_c1.2.2.2.2.2.2.2.2.2.2.2.2.1, rfl⟩
theorem dX7_alike_50 : Dc cX7_alike 50 (.invokevirtual 60) 3 53 := ⟨DX7_alike_c1.2.2.2.2.2.2.2.2.2.2.2.2.2.1, rfl⟩
theorem dX7_alike_53 : Db cX7_alike 53 (fun o => .if_icmp .gt o) 56 220 := ⟨167, DX7_alike_c1.2.2.2.2.2.2.2.2.2.2.2.2.2.2.1, rfl, rfl⟩
theorem dX7_alike_56 : Dc cX7_alike 56 (.iconst 0) 1 57 := ⟨DX7_alike_c1.2.2.2.2.2.2.2.2.2.2.2.2.2.2.2, rfl⟩
theorem DX7_alike_c2 : decode cX7_alike 57 = .ok (.istore 6, 2) ∧ decode cX7_alike 59 = .ok (.iload 4, 2) ∧ decode cX7_alike 61 = .ok (.ifCond .le 138, 3) ∧ decode cX7_alike 64 = .ok (.iload 5, 2) ∧ decode cX7_alike 66 = .ok (.ifCond .le 133, 3) ∧ decode cX7_alike 69 = .ok (.aload_n 0, 1) ∧ decode cX7_alike 70 = .ok (.iload_n 1, 1) ∧ decode cX7_alike 71 = .ok (.iload 4, 2) ∧ decode cX7_alike 73 = .ok (.iconst 1, 1) ∧ decode cX7_alike 74 = .ok (.isub, 1) ∧ decode cX7_alike 75 = .ok (.invokevirtual 71, 3) ∧ decode cX7_alike 78 = .ok (.aload_n 0, 1) ∧ decode cX7_alike 79 = .ok (.iload_n 2, 1) ∧ decode cX7_alike 80 = .ok (.iload 5, 2) ∧ decode cX7_alike 82 = .ok (.iconst 1, 1) ∧ decode cX7_alike 83 = .ok (.isub, 1) := by decide +kernel
theorem dX7_alike_57 : Dc cX7_alike 57 (.istore 6) 2 59 := ⟨DX7_alike_c2.1, rfl⟩
theorem dX7_alike_59 : Dc cX7_alike 59 (.iload 4) 2 61 := ⟨DX7_alike_c2.2.1, rfl⟩
theorem dX7_alike_61 : Db cX7_alike 61 (fun o => .ifCond .le o) 64 199 := ⟨138, DX7_alike_c2.2.2.1, rfl, rfl⟩
theorem dX7_alike_64 : Dc cX7_alike 64 (.iload 5) 2 66 := ⟨DX7_alike_c2.2.2.2.1, rfl⟩
theorem dX7_alike_66 : Db cX7_alike 66 (fun o => .ifCond .le o) 69 199 := ⟨133, DX7_alike_c2.2.2.2.2.1, rfl, rfl⟩
theorem dX7_alike_69 : Dc cX7_alike 69 (.aload_n 0) 1 70 := ⟨DX7_alike_c2.2.2.2.2.2.1, rfl⟩
theorem dX7_alike_70 : Dc cX7_alike 70 (.iload_n 1) 1 71 := ⟨DX7_alike_c2.2.2.2.2.2.2.1, rfl⟩
theorem dX7_alike_71 : Dc cX7_alike 71 (.iload 4) 2 73 := ⟨DX7_alike_c2.2.2.2.2.2.2.2.1, rfl⟩
theorem dX7_alike_73 : Dc cX7_alike 73 (.iconst 1) 1 74 := ⟨DX7_alike_c2.2.2.2.2.2.2.2.2.1, rfl⟩
theorem dX7_alike_74 : Dc cX7_alike 74 (.isub) 1 75 := ⟨DX7_alike_c2.2.2.2.2.2.2.2.2.2.1, rfl⟩
theorem dX7_alike_75 : Dc cX7_alike 75 (.invokevirtual 71) 3 78 := ⟨DX7_alike_c2.2.2.2.2.2.2.2.2.2.2.1, rfl⟩
theorem dX7_alike_78 : Dc cX7_alike 78 (.aload_n 0) 1 79 := ⟨DX7_alike_c2.2.2.2.2.2.2.2.2.2.2.2.1, rfl⟩
theorem dX7_alike_79 : Dc cX7_alike 79 (.iload_n 2) 1 80 := ⟨DX7_alike_c2.2.2.2.2.2.2.2.2.2.2.2.2.1, rfl⟩
theorem dX7_alike_80 : Dc cX7_alike 80 (.iload 5) 2 82 := ⟨DX7_alike_c2.2.2.2.2.2.2.2.2.2.2.2.2.2.1, rfl⟩
theorem dX7_alike_82 : Dc cX7_alike 82 (.iconst 1) 1 83 := ⟨DX7_alike_c2.2.2.2.2.2.2.2.2.2.2.2.2.2.2.1, rfl⟩
theorem dX7_alike_83 : Dc cX7_alike 83 (.isub) 1 84 := ⟨DX7_alike_c2.2.2.2.2.2.2.2.2.2.2.2.2.2.2.2, rfl⟩
theorem DX7_alike_c3 : decode cX7_alike 84 = .ok (.invokevirtual 71, 3) ∧ decode cX7_alike 87 = .ok (.if_icmp .ne 32, 3) ∧ decode cX7_alike 90 = .ok (.iload_n 3, 1) ∧ decode cX7_alike 91 = .ok (.ifCond .eq 24, 3) ∧ decode cX7_alike 94 = .ok (.aload_n 0, 1) ∧ decode cX7_alike 95 = .ok (.iload_n 1, 1) ∧ decode cX7_alike 96 = .ok (.iload 4, 2) ∧ decode cX7_alike 98 = .ok (.iconst 1, 1) ∧ decode cX7_alike 99 = .ok (.isub, 1) ∧ decode cX7_alike 100 = .ok (.invokevirtual 75, 3) ∧ decode cX7_alike 103 = .ok (.aload_n 0, 1) ∧ decode cX7_alike 104 = .ok (.iload_n 2, 1) ∧ decode cX7_alike 105 = .ok (.iload 5, 2) ∧ decode cX7_alike 107 = .ok (.iconst 1, 1) ∧ decode cX7_alike 108 = .ok (.isub, 1) ∧ decode cX7_alike 109 = .ok (.invokevirtual 75, 3) := by decide +kernel
theorem dX7_alike_84 : Dc cX7_alike 84 (.invokevirtual 71) 3 87 := ⟨DX7_alike_c3.1, rfl⟩
theorem dX7_alike_87 : Db cX7_alike 87 (fun o => .if_icmp .ne o) 90 119 := ⟨32, DX7_alike_c3.2.1, rfl, rfl⟩
theorem dX7_alike_90 : Dc cX7_alike 90 (.iload_n 3) 1 91 := ⟨DX7_alike_c3.2.2.1, rfl⟩
theorem dX7_alike_91 : Db cX7_alike 91 (fun o => .ifCond .eq o) 94 115 := ⟨24, DX7_alike_c3.2.2.2.1, rfl, rfl⟩
theorem dX7_alike_94 : Dc cX7_alike 94 (.aload_n 0) 1 95 := ⟨DX7_alike_c3.2.2.2.2.1, rfl⟩
theorem dX7_alike_95 : Dc cX7_alike 95 (.iload_n 1) 1 96 := ⟨DX7_alike_c3.2.2.2.2.2.1, rfl⟩
theorem dX7_alike_96 : Dc cX7_alike 96 (.iload 4) 2 98 := ⟨DX7_alike_c3.2.2.2.2.2.2.1, rfl⟩
theorem dX7_alike_98 : Dc cX7_alike 98 (.iconst 1) 1 99 := ⟨DX7_alike_c3.2.2.2.2.2.2.2.1, rfl⟩
theorem dX7_alike_99 : Dc cX7_alike 99 (.isub) 1 100 := ⟨DX7_alike_c3.2.2.2.2.2.2.2.2.1, rfl⟩
theorem dX7_alike_100 : Dc cX7_alike 100 (.invokevirtual 75) 3 103 := ⟨DX7_alike_c3.2.2.2.2.2.2.2.2.2.1, rfl⟩
theorem dX7_alike_103 : Dc cX7_alike 103 (.aload_n 0) 1 104 := ⟨DX7_alike_c3.2.2.2.2.2.2.2.2.2.2.1, rfl⟩
theorem dX7_alike_104 : Dc cX7_alike 104 (.iload_n 2) 1 105 := ⟨DX7_alike_c3.2.2.2.2.2.2.2.2.2.2.2.1, rfl⟩
theorem dX7_alike_105 : Dc cX7_alike 105 (.iload 5) 2 107 := ⟨DX7_alike_c3.2.2.2.2.2.2.2.2.2.2.2.2.1, rfl⟩
theorem dX7_alike_107 : Dc cX7_alike 107 (.iconst 1) 1 108 := ⟨DX7_alike_c3.2.2.2.2.2.2.2.2.2.2.2.2.2.1, rfl⟩
theorem dX7_alike_108 : Dc cX7_alike 108 (.isub) 1 109 := ⟨DX7_alike_c3.2.2.2.2.2.2.2.2.2.2.2.2.2.2.1, rfl⟩
theorem dX7_alike_109 : Dc cX7_alike 109 (.invokevirtual 75) 3 112 := ⟨DX7_alike_c3.2.2.2.2.2.2.2.2.2.2.2.2.2.2.2, rfl⟩
theorem DX7_alike_c4 : decode cX7_alike 112 = .ok (.if_icmp .ne 7, 3) ∧ decode cX7_alike 115 = .ok (.iconst 1, 1) ∧ decode cX7_alike 116 = .ok (.goto 4, 3) ∧ decode cX7_alike 119 = .ok (.iconst 0, 1) ∧ decode cX7_alike 120 = .ok (.istore 7, 2) ∧ decode cX7_alike 122 = .ok (.aload_n 0, 1) ∧ decode cX7_alike 123 = .ok (.getfield 34, 3) ∧ decode cX7_alike 126 = .ok (.bipush 13, 2) ∧ decode cX7_alike 128 = .ok (.iload 4, 2) ∧ decode cX7_alike 130 = .ok (.imul, 1) ∧ decode cX7_alike 131 = .ok (.iload 5, 2) ∧ decode cX7_alike 133 = .ok (.iadd, 1) ∧ decode cX7_alike 134 = .ok (.iconst 1, 1) ∧ decode cX7_alike 135 = .ok (.isub, 1) ∧ decode cX7_alike 136 = .ok (.iaload, 1) ∧ decode cX7_alike 137 = .ok (.istore 8, 2) := by decide +kernel
theorem dX7_alike_112 : Db cX7_alike 112 (fun o => .if_icmp .ne o) 115 119 := ⟨7, DX7_alike_c4.1, rfl, rfl⟩
theorem dX7_alike_115 : Dc cX7_alike 115 (.iconst 1) 1 116 := ⟨DX7_alike_c4.2.1, rfl⟩
theorem dX7_alike_116 : Db cX7_alike 116 .goto 119 120 := ⟨4, DX7_alike_c4.2.2.1, rfl, rfl⟩
theorem dX7_alike_119 : Dc cX7_alike 119 (.iconst 0) 1 120 := ⟨DX7_alike_c4.2.2.2.1, rfl⟩
theorem dX7_alike_120 : Dc cX7_alike 120 (.istore 7) 2 122 := ⟨DX7_alike_c4.2.2.2.2.1, rfl⟩
theorem dX7_alike_122 : Dc cX7_alike 122 (.aload_n 0) 1 123 := ⟨DX7_alike_c4.2.2.2.2.2.1, rfl⟩
theorem dX7_alike_123 : Dc cX7_alike 123 (.getfield 34) 3 126 := ⟨DX7_alike_c4.2.2.2.2.2.2.1, rfl⟩
theorem dX7_alike_126 : Dc cX7_alike 126 (.bipush 13) 2 128 := ⟨DX7_alike_c4.2.2.2.2.2.2.2.1, rfl⟩
theorem dX7_alike_128 : Dc cX7_alike 128 (.iload 4) 2 130 := ⟨DX7_alike_c4.2.2.2.2.2.2.2.2.1, rfl⟩
theorem dX7_alike_130 : Dc cX7_alike 130 (.imul) 1 131 := ⟨DX7_alike_c4.2.2.2.2.2.2.2.2.2.1, rfl⟩
theorem dX7_alike_131 : Dc cX7_alike 131 (.iload 5) 2 133 := ⟨DX7_alike_c4.2.2.2.2.2.2.2.2.2.2.1, rfl⟩
theorem dX7_alike_133 : Dc cX7_alike 133 (.iadd) 1 134 := ⟨DX7_alike_c4.2.2.2.2.2.2.2.2.2.2.2.1, rfl⟩
theorem dX7_alike_134 : Dc cX7_alike 134 (.iconst 1) 1 135 := ⟨DX7_alike_c4.2.2.2.2.2.2.2.2.2.2.2.2.1, rfl⟩
theorem dX7_alike_135 : Dc cX7_alike 135 (.isub) 1 136 := ⟨DX7_alike_c4.2.2.2.2.2.2.2.2.2.2.2.2.2.1, rfl⟩
theorem dX7_alike_136 : Dc cX7_alike 136 (.iaload) 1 137 := ⟨DX7_alike_c4.2.2.2.2.2.2.2.2.2.2.2.2.2.2.1, rfl⟩
theorem dX7_alike_137 : Dc cX7_alike 137 (.istore 8) 2 139 := ⟨DX7_alike_c4.2.2.2.2.2.2.2.2.2.2.2.2.2.2.2, rfl⟩
theorem DX7_alike_c5 : decode cX7_alike 139 = .ok (.aload_n 0, 1) ∧ decode cX7_alike 140 = .ok (.getfield 34, 3) ∧ decode cX7_alike 143 = .ok (.bipush 13, 2) ∧ decode cX7_alike 145 = .ok (.iload 4, 2) ∧ decode cX7_alike 147 = .ok (.imul, 1) ∧ decode cX7_alike 148 = .ok (.bipush 13, 2) ∧ decode cX7_alike 150 = .ok (.isub, 1) ∧ decode cX7_alike 151 = .ok (.iload 5, 2) ∧ decode cX7_alike 153 = .ok (.iadd, 1) ∧ decode cX7_alike 154 = .ok (.iaload, 1) ∧ decode cX7_alike 155 = .ok (.istore 9, 2) ∧ decode cX7_alike 157 = .ok (.iload 7, 2) ∧ decode cX7_alike 159 = .ok (.ifCond .eq 24, 3) ∧ decode cX7_alike 162 = .ok (.aload_n 0, 1) ∧ decode cX7_alike 163 = .ok (.getfield 34, 3) ∧ decode cX7_alike 166 = .ok (.bipush 13, 2) := by decide +kernel
theorem dX7_alike_139 : Dc cX7_alike 139 (.aload_n 0) 1 140 := ⟨DX7_alike_c5.1, rfl⟩
theorem dX7_alike_140 : Dc cX7_alike 140 (.getfield 34) 3 143 := ⟨DX7_alike_c5.2.1, rfl⟩
theorem dX7_alike_143 : Dc cX7_alike 143 (.bipush 13) 2 145 := ⟨DX7_alike_c5.2.2.1, rfl⟩
theorem dX7_alike_145 : Dc cX7_alike 145 (.iload 4) 2 147 := ⟨DX7_alike_c5.2.2.2.1, rfl⟩
theorem dX7_alike_147 : Dc cX7_alike 147 (.imul) 1 148 := ⟨DX7_alike_c5.2.2.2.2.1, rfl⟩
theorem dX7_alike_148 : Dc cX7_alike 148 (.bipush 13) 2 150 := ⟨DX7_alike_c5.2.2.2.2.2.1, rfl⟩
theorem dX7_alike_150 : Dc cX7_alike 150 (.isub) 1 151 := ⟨DX7_alike_c5.2.2.2.2.2.2.1, rfl⟩
theorem dX7_alike_151 : Dc cX7_alike 151 (.iload 5) 2 153 := ⟨DX7_alike_c5.2.2.2.2.2.2.2.1, rfl⟩
theorem dX7_alike_153 : Dc cX7_alike 153 (.iadd) 1 154 := ⟨DX7_alike_c5.2.2.2.2.2.2.2.2.1, rfl⟩
theorem dX7_alike_154 : Dc cX7_alike 154 (.iaload) 1 155 := ⟨DX7_alike_c5.2.2.2.2.2.2.2.2.2.1, rfl⟩
theorem dX7_alike_155 : Dc cX7_alike 155 (.istore 9) 2 157 := ⟨DX7_alike_c5.2.2.2.2.2.2.2.2.2.2.1, rfl⟩
theorem dX7_alike_157 : Dc cX7_alike 157 (.iload 7) 2 159 := ⟨DX7_alike_c5.2.2.2.2.2.2.2.2.2.2.2.1, rfl⟩
theorem dX7_alike_159 : Db cX7_alike 159 (fun o => .ifCond .eq o) 162 183 := ⟨24, DX7_alike_c5.2.2.2.2.2.2.2.2.2.2.2.2.1, rfl, rfl⟩
theorem dX7_alike_162 : Dc cX7_alike 162 (.aload_n 0) 1 163 := ⟨DX7_alike_c5.2.2.2.2.2.2.2.2.2.2.2.2.2.1, rfl⟩
theorem dX7_alike_163 : Dc cX7_alike 163 (.getfield 34) 3 166 := ⟨DX7_alike_c5.2.2.2.2.2.2.2.2.2.2.2.2.2.2.1, rfl⟩
theorem dX7_alike_166 : Dc cX7_alike 166 (.bipush 13) 2 168 := ⟨DX7_alike_c5.2.2.2.2.2.2.2.2.2.2.2.2.2.2.2, rfl⟩
theorem DX7_alike_c6 : decode cX7_alike 168 = .ok (.iload 4, 2) ∧ decode cX7_alike 170 = .ok (.imul, 1) ∧ decode cX7_alike 171 = .ok (.bipush 14, 2) ∧ decode cX7_alike 173 = .ok (.isub, 1) ∧ decode cX7_alike 174 = .ok (.iload 5, 2) ∧ decode cX7_alike 176 = .ok (.iadd, 1) ∧ decode cX7_alike 177 = .ok (.iaload, 1) ∧ decode cX7_alike 178 = .ok (.iconst 1, 1) ∧ decode cX7_alike 179 = .ok (.iadd, 1) ∧ decode cX7_alike 180 = .ok (.goto 17, 3) ∧ decode cX7_alike 183 = .ok (.iload 8, 2) ∧ decode cX7_alike 185 = .ok (.iload 9, 2) ∧ decode cX7_alike 187 = .ok (.if_icmp .le 8, 3) ∧ decode cX7_alike 190 = .ok (.iload 8, 2) ∧ decode cX7_alike 192 = .ok (.goto 5, 3) ∧ decode cX7_alike 195 = .ok (.iload 9, 2) := by decide +kernel
theorem dX7_alike_168 : Dc cX7_alike 168 (.iload 4) 2 170 := ⟨DX7_alike_c6.1, rfl⟩
theorem dX7_alike_170 : Dc cX7_alike 170 (.imul) 1 171 := ⟨DX7_alike_c6.2.1, rfl⟩
theorem dX7_alike_171 : Dc cX7_alike 171 (.bipush 14) 2 173 := ⟨DX7_alike_c6.2.2.1, rfl⟩
theorem dX7_alike_173 : Dc cX7_alike 173 (.isub) 1 174 := ⟨DX7_alike_c6.2.2.2.1, rfl⟩
theorem dX7_alike_174 : Dc cX7_alike 174 (.iload 5) 2 176 := ⟨DX7_alike_c6.2.2.2.2.1, rfl⟩
theorem dX7_alike_176 : Dc cX7_alike 176 (.iadd) 1 177 := ⟨DX7_alike_c6.2.2.2.2.2.1, rfl⟩
theorem dX7_alike_177 : Dc cX7_alike 177 (.iaload) 1 178 := ⟨DX7_alike_c6.2.2.2.2.2.2.1, rfl⟩
theorem dX7_alike_178 : Dc cX7_alike 178 (.iconst 1) 1 179 := ⟨DX7_alike_c6.2.2.2.2.2.2.2.1, rfl⟩
theorem dX7_alike_179 : Dc cX7_alike 179 (.iadd) 1 180 := ⟨DX7_alike_c6.2.2.2.2.2.2.2.2.1, rfl⟩
theorem dX7_alike_180 : Db cX7_alike 180 .goto 183 197 := ⟨17, DX7_alike_c6.2.2.2.2.2.2.2.2.2.1, rfl, rfl⟩
theorem dX7_alike_183 : Dc cX7_alike 183 (.iload 8) 2 185 := ⟨DX7_alike_c6.2.2.2.2.2.2.2.2.2.2.1, rfl⟩
theorem dX7_alike_185 : Dc cX7_alike 185 (.iload 9) 2 187 := ⟨DX7_alike_c6.2.2.2.2.2.2.2.2.2.2.2.1, rfl⟩
theorem dX7_alike_187 : Db cX7_alike 187 (fun o => .if_icmp .le o) 190 195 := ⟨8, DX7_alike_c6.2.2.2.2.2.2.2.2.2.2.2.2.1, rfl, rfl⟩
theorem dX7_alike_190 : Dc cX7_alike 190 (.iload 8) 2 192 := ⟨DX7_alike_c6.2.2.2.2.2.2.2.2.2.2.2.2.2.1, rfl⟩
theorem dX7_alike_192 : Db cX7_alike 192 .goto 195 197 := ⟨5, DX7_alike_c6.2.2.2.2.2.2.2.2.2.2.2.2.2.2.1, rfl, rfl⟩
theorem dX7_alike_195 : Dc cX7_alike 195 (.iload 9) 2 197 := ⟨DX7_alike_c6.2.2.2.2.2.2.2.2.2.2.2.2.2.2.2, rfl⟩
theorem DX7_alike_c7 : decode cX7_alike 197 = .ok (.istore 6, 2) ∧ decode cX7_alike 199 = .ok (.aload_n 0, 1) ∧ decode cX7_alike 200 = .ok (.getfield 34, 3) ∧ decode cX7_alike 203 = .ok (.bipush 13, 2) ∧ decode cX7_alike 205 = .ok (.iload 4, 2) ∧ decode cX7_alike 207 = .ok (.imul, 1) ∧ decode cX7_alike 208 = .ok (.iload 5, 2) ∧ decode cX7_alike 210 = .ok (.iadd, 1) ∧ decode cX7_alike 211 = .ok (.iload 6, 2) ∧ decode cX7_alike 213 = .ok (.iastore, 1) ∧ decode cX7_alike 214 = .ok (.iinc 5 1, 3) ∧ decode cX7_alike 217 = .ok (.goto (-171), 3) ∧ decode cX7_alike 220 = .ok (.iinc 4 1, 3) ∧ decode cX7_alike 223 = .ok (.goto (-190), 3) ∧ decode cX7_alike 226 = .ok (.aload_n 0, 1) ∧ decode cX7_alike 227 = .ok (.getfield 34, 3) := by decide +kernel
theorem dX7_alike_197 : Dc cX7_alike 197 (.istore 6) 2 199 := ⟨DX7_alike_c7.1, rfl⟩
theorem dX7_alike_199 : Dc cX7_alike 199 (.aload_n 0) 1 200 := ⟨DX7_alike_c7.2.1, rfl⟩
theorem dX7_alike_200 : Dc cX7_alike 200 (.getfield 34) 3 203 := ⟨DX7_alike_c7.2.2.1, rfl⟩
theorem dX7_alike_203 : Dc cX7_alike 203 (.bipush 13) 2 205 := ⟨DX7_alike_c7.2.2.2.1, rfl⟩
theorem dX7_alike_205 : Dc cX7_alike 205 (.iload 4) 2 207 := ⟨DX7_alike_c7.2.2.2.2.1, rfl⟩
theorem dX7_alike_207 : Dc cX7_alike 207 (.imul) 1 208 := ⟨DX7_alike_c7.2.2.2.2.2.1, rfl⟩
theorem dX7_alike_208 : Dc cX7_alike 208 (.iload 5) 2 210 := ⟨DX7_alike_c7.2.2.2.2.2.2.1, rfl⟩
theorem dX7_alike_210 : Dc cX7_alike 210 (.iadd) 1 211 := ⟨DX7_alike_c7.2.2.2.2.2.2.2.1, rfl⟩
theorem dX7_alike_211 : Dc cX7_alike 211 (.iload 6) 2 213 := ⟨DX7_alike_c7.2.2.2.2.2.2.2.2.1, rfl⟩
theorem dX7_alike_213 : Dc cX7_alike 213 (.iastore) 1 214 := ⟨DX7_alike_c7.2.2.2.2.2.2.2.2.2.1, rfl⟩
theorem dX7_alike_214 : Dc cX7_alike 214 (.iinc 5 1) 3 217 := ⟨DX7_alike_c7.2.2.2.2.2.2.2.2.2.2.1, rfl⟩
theorem dX7_alike_217 : Db cX7_alike 217 .goto 220 46 := ⟨-171, DX7_alike_c7.2.2.2.2.2.2.2.2.2.2.2.1, rfl, rfl⟩
theorem dX7_alike_220 : Dc cX7_alike 220 (.iinc 4 1) 3 223 := ⟨DX7_alike_c7.2.2.2.2.2.2.2.2.2.2.2.2.1, rfl⟩
theorem dX7_alike_223 : Db cX7_alike 223 .goto 226 33 := ⟨-190, DX7_alike_c7.2.2.2.2.2.2.2.2.2.2.2.2.2.1, rfl, rfl⟩
theorem dX7_alike_226 : Dc cX7_alike 226 (.aload_n 0) 1 227 := ⟨DX7_alike_c7.2.2.2.2.2.2.2.2.2.2.2.2.2.2.1, rfl⟩
theorem dX7_alike_227 : Dc cX7_alike 227 (.getfield 34) 3 230 := ⟨DX7_alike_c7.2.2.2.2.2.2.2.2.2.2.2.2.2.2.2, rfl⟩
theorem DX7_alike_c8 : decode cX7_alike 230 = .ok (.bipush 13, 2) ∧ decode cX7_alike 232 = .ok (.aload_n 0, 1) ∧ decode cX7_alike 233 = .ok (.iload_n 1, 1) ∧ decode cX7_alike 234 = .ok (.invokevirtual 60, 3) ∧ decode cX7_alike 237 = .ok (.imul, 1) ∧ decode cX7_alike 238 = .ok (.aload_n 0, 1) ∧ decode cX7_alike 239 = .ok (.iload_n 2, 1) ∧ decode cX7_alike 240 = .ok (.invokevirtual 60, 3) ∧ decode cX7_alike 243 = .ok (.iadd, 1) ∧ decode cX7_alike 244 = .ok (.iaload, 1) ∧ decode cX7_alike 245 = .ok (.ireturn, 1) := by decide +kernel
theorem dX7_alike_230 : Dc cX7_alike 230 (.bipush 13) 2 232 := ⟨DX7_alike_c8.1, rfl⟩
theorem dX7_alike_232 : Dc cX7_alike 232 (.aload_n 0) 1 233 := ⟨DX7_alike_c8.2.1, rfl⟩
theorem dX7_alike_233 : Dc cX7_alike 233 (.iload_n 1) 1 234 := ⟨DX7_alike_c8.2.2.1, rfl⟩
theorem dX7_alike_234 : Dc cX7_alike 234 (.invokevirtual 60) 3 237 := ⟨DX7_alike_c8.2.2.2.1, rfl⟩
theorem dX7_alike_237 : Dc cX7_alike 237 (.imul) 1 238 := ⟨DX7_alike_c8.2.2.2.2.1, rfl⟩
theorem dX7_alike_238 : Dc cX7_alike 238 (.aload_n 0) 1 239 := ⟨DX7_alike_c8.2.2.2.2.2.1, rfl⟩
theorem dX7_alike_239 : Dc cX7_alike 239 (.iload_n 2) 1 240 := ⟨DX7_alike_c8.2.2.2.2.2.2.1, rfl⟩
theorem dX7_alike_240 : Dc cX7_alike 240 (.invokevirtual 60) 3 243 := ⟨DX7_alike_c8.2.2.2.2.2.2.2.1, rfl⟩
theorem dX7_alike_243 : Dc cX7_alike 243 (.iadd) 1 244 := ⟨DX7_alike_c8.2.2.2.2.2.2.2.2.1, rfl⟩
theorem dX7_alike_244 : Dc cX7_alike 244 (.iaload) 1 245 := ⟨DX7_alike_c8.2.2.2.2.2.2.2.2.2.1, rfl⟩
theorem dX7_alike_245 : Dc cX7_alike 245 (.ireturn) 1 246 := ⟨DX7_alike_c8.2.2.2.2.2.2.2.2.2.2, rfl⟩
theorem DX7_likeNumbers_c0 : decode cX7_likeNumbers 0 = .ok (.iconst 0, 1) ∧ decode cX7_likeNumbers 1 = .ok (.istore_n 3, 1) ∧ decode cX7_likeNumbers 2 = .ok (.iconst 0, 1) ∧ decode cX7_likeNumbers 3 = .ok (.istore 4, 2) ∧ decode cX7_likeNumbers 5 = .ok (.iload 4, 2) ∧ decode cX7_likeNumbers 7 = .ok (.aload_n 0, 1) ∧ decode cX7_likeNumbers 8 = .ok (.iload_n 1, 1) ∧ decode cX7_likeNumbers 9 = .ok (.invokevirtual 60, 3) ∧ decode cX7_likeNumbers 12 = .ok (.if_icmp .ge 34, 3) ∧ decode cX7_likeNumbers 15 = .ok (.iload_n 3, 1) ∧ decode cX7_likeNumbers 16 = .ok (.aload_n 0, 1) ∧ decode cX7_likeNumbers 17 = .ok (.iload_n 1, 1) ∧ decode cX7_likeNumbers 18 = .ok (.iload 4, 2) ∧ decode cX7_likeNumbers 20 = .ok (.invokevirtual 75, 3) ∧ decode cX7_likeNumbers 23 = .ok (.aload_n 0, 1) ∧ decode cX7_likeNumbers 24 = .ok (.iload_n 2, 1) := by decide +kernel
theorem dX7_likeNumbers_0 : Dc cX7_likeNumbers 0 (.iconst 0) 1 1 := ⟨DX7_likeNumbers_c0.1, rfl⟩
theorem dX7_likeNumbers_1 : Dc cX7_likeNumbers 1 (.istore_n 3) 1 2 := ⟨DX7_likeNumbers_c0.2.1, rfl⟩
theorem dX7_likeNumbers_2 : Dc cX7_likeNumbers 2 (.iconst 0) 1 3 := ⟨DX7_likeNumbers_c0.2.2.1, rfl⟩
theorem dX7_likeNumbers_3 : Dc cX7_likeNumbers 3 (.istore 4) 2 5 := ⟨DX7_likeNumbers_c0.2.2.2.1, rfl⟩
theorem dX7_likeNumbers_5 : Dc cX7_likeNumbers 5 (.iload 4) 2 7 := ⟨DX7_likeNumbers_c0.2.2.2.2.1, rfl⟩
theorem dX7_likeNumbers_7 : Dc cX7_likeNumbers 7 (.aload_n 0) 1 8 := ⟨DX7_likeNumbers_c0.2.2.2.2.2.1, rfl⟩
theorem dX7_likeNumbers_8 : Dc cX7_likeNumbers 8 (.iload_n 1) 1 9 := ⟨DX7_likeNumbers_c0.2.2.2.2.2.2.1, rfl⟩
theorem dX7_likeNumbers_9 : Dc cX7_likeNumbers 9 (.invokevirtual 60) 3 12 := ⟨DX7_likeNumbers_c0.2.2.2.2.2.2.2.1, rfl⟩
theorem dX7_likeNumbers_12 : Db cX7_likeNumbers 12 (fun o => .if_icmp .ge o) 15 46 := ⟨34, DX7_likeNumbers_c0.2.2.2.2.2.2.2.2.1, rfl, rfl⟩
theorem dX7_likeNumbers_15 : Dc cX7_likeNumbers 15 (.iload_n 3) 1 16 := ⟨DX7_likeNumbers_c0.2.2.2.2.2.2.2.2.2.1, rfl⟩
theorem dX7_likeNumbers_16 : Dc cX7_likeNumbers 16 (.aload_n 0) 1 17 := ⟨DX7_likeNumbers_c0.2.2.2.2.2.2.2.2.2.2.1, rfl⟩
theorem dX7_likeNumbers_17 : Dc cX7_likeNumbers 17 (.iload_n 1) 1 18 := ⟨DX7_likeNumbers_c0.2.2.2.2.2.2.2.2.2.2.2.1, rfl⟩
theorem dX7_likeNumbers_18 : Dc cX7_likeNumbers 18 (.iload 4) 2 20 := ⟨DX7_likeNumbers_c0.2.2.2.2.2.2.2.2.2.2.2.2.1, rfl⟩
theorem dX7_likeNumbers_20 : Dc cX7_likeNumbers 20 (.invokevirtual 75) 3 23 := ⟨DX7_likeNumbers_c0.2.2.2.2.2.2.2.2.2.2.2.2.2.1, rfl⟩
theorem dX7_likeNumbers_23 : Dc cX7_likeNumbers 23 (.aload_n 0) 1 24 := ⟨DX7_likeNumbers_c0.2.2.2.2.2.2.2.2.2.2.2.2.2.2.1, rfl⟩
theorem dX7_likeNumbers_24 : Dc cX7_likeNumbers 24 (.iload_n 2) 1 25 := ⟨DX7_likeNumbers_c0.2.2.2.2.2.2.2.2.2.2.2.2.2.2.2, rfl⟩
theorem DX7_likeNumbers_c1 : decode cX7_likeNumbers 25 = .ok (.iload 4, 2) ∧ decode cX7_likeNumbers 27 = .ok (.invokevirtual 75, 3) ∧ decode cX7_likeNumbers 30 = .ok (.if_icmp .ne 7, 3) ∧ decode cX7_likeNumbers 33 = .ok (.iconst 1, 1) ∧ decode cX7_likeNumbers 34 = .ok (.goto 4, 3) ∧ decode cX7_likeNumbers 37 = .ok (.iconst 0, 1) ∧ decode cX7_likeNumbers 38 = .ok (.iadd, 1) ∧ decode cX7_likeNumbers 39 = .ok (.istore_n 3, 1) ∧ decode cX7_likeNumbers 40 = .ok (.iinc 4 1, 3) ∧ decode cX7_likeNumbers 43 = .ok (.goto (-38), 3) ∧ decode cX7_likeNumbers 46 = .ok (.iload_n 3, 1) ∧ decode cX7_likeNumbers 47 = .ok (.ireturn, 1) := by decide +kernel
theorem dX7_likeNumbers_25 : Dc cX7_likeNumbers 25 (.iload 4) 2 27 := ⟨DX7_likeNumbers_c1.1, rfl⟩
theorem dX7_likeNumbers_27 : Dc cX7_likeNumbers 27 (.invokevirtual 75) 3 30 := ⟨DX7_likeNumbers_c1.2.1, rfl⟩
theorem dX7_likeNumbers_30 : Db cX7_likeNumbers 30 (fun o => .if_icmp .ne o) 33 37 := ⟨7, DX7_likeNumbers_c1.2.2.1, rfl, rfl⟩
theorem dX7_likeNumbers_33 : Dc cX7_likeNumbers 33 (.iconst 1) 1 34 := ⟨DX7_likeNumbers_c1.2.2.2.1, rfl⟩
theorem dX7_likeNumbers_34 : Db cX7_likeNumbers 34 .goto 37 38 := ⟨4, DX7_likeNumbers_c1.2.2.2.2.1, rfl, rfl⟩
theorem dX7_likeNumbers_37 : Dc cX7_likeNumbers 37 (.iconst 0) 1 38 := ⟨DX7_likeNumbers_c1.2.2.2.2.2.1, rfl⟩
theorem dX7_likeNumbers_38 : Dc cX7_likeNumbers 38 (.iadd) 1 39 := ⟨DX7_likeNumbers_c1.2.2.2.2.2.2.1, rfl⟩
theorem dX7_likeNumbers_39 : Dc cX7_likeNumbers 39 (.istore_n 3) 1 40 := ⟨DX7_likeNumbers_c1.2.2.2.2.2.2.2.1, rfl⟩
theorem dX7_likeNumbers_40 : Dc cX7_likeNumbers 40 (.iinc 4 1) 3 43 := ⟨DX7_likeNumbers_c1.2.2.2.2.2.2.2.2.1, rfl⟩
theorem dX7_likeNumbers_43 : Db cX7_likeNumbers 43 .goto 46 5 := ⟨-38, DX7_likeNumbers_c1.2.2.2.2.2.2.2.2.2.1, rfl, rfl⟩
theorem dX7_likeNumbers_46 : Dc cX7_likeNumbers 46 (.iload_n 3) 1 47 := ⟨DX7_likeNumbers_c1.2.2.2.2.2.2.2.2.2.2.1, rfl⟩
theorem dX7_likeNumbers_47 : Dc cX7_likeNumbers 47 (.ireturn) 1 48 := ⟨DX7_likeNumbers_c1.2.2.2.2.2.2.2.2.2.2.2, rfl⟩
theorem DX7_bestPair_c0 : decode cX7_bestPair 0 = .ok (.iload_n 1, 1) ∧ decode cX7_bestPair 1 = .ok (.iconst 0, 1) ∧ decode cX7_bestPair 2 = .ok (.iconst 1, 1) ∧ decode cX7_bestPair 3 = .ok (.invokestatic 37, 3) ∧ decode cX7_bestPair 6 = .ok (.ifCond .ne 6, 3) ∧ decode cX7_bestPair 9 = .ok (.bipush (-2), 2) ∧ decode cX7_bestPair 11 = .ok (.ireturn, 1) ∧ decode cX7_bestPair 12 = .ok (.bipush (-5), 2) ∧ decode cX7_bestPair 14 = .ok (.istore_n 2, 1) ∧ decode cX7_bestPair 15 = .ok (.bipush (-5), 2) ∧ decode cX7_bestPair 17 = .ok (.istore_n 3, 1) ∧ decode cX7_bestPair 18 = .ok (.iconst 0, 1) ∧ decode cX7_bestPair 19 = .ok (.istore 4, 2) ∧ decode cX7_bestPair 21 = .ok (.iload 4, 2) ∧ decode cX7_bestPair 23 = .ok (.aload_n 0, 1) ∧ decode cX7_bestPair 24 = .ok (.getfield 7, 3) := by decide +kernel
theorem dX7_bestPair_0 : Dc cX7_bestPair 0 (.iload_n 1) 1 1 := ⟨DX7_bestPair_c0.1, rfl⟩
theorem dX7_bestPair_1 : Dc cX7_bestPair 1 (.iconst 0) 1 2 := ⟨DX7_bestPair_c0.2.1, rfl⟩
theorem dX7_bestPair_2 : Dc cX7_bestPair 2 (.iconst 1) 1 3 := ⟨DX7_bestPair_c0.2.2.1, rfl⟩
theorem dX7_bestPair_3 : Dc cX7_bestPair 3 (.invokestatic 37) 3 6 := ⟨DX7_bestPair_c0.2.2.2.1, rfl⟩
theorem dX7_bestPair_6 : Db cX7_bestPair 6 (fun o => .ifCond .ne o) 9 12 := ⟨6, DX7_bestPair_c0.2.2.2.2.1, rfl, rfl⟩
theorem dX7_bestPair_9 : Dc cX7_bestPair 9 (.bipush (-2)) 2 11 := ⟨DX7_bestPair_c0.2.2.2.2.2.1, rfl⟩
theorem dX7_bestPair_11 : Dc cX7_bestPair 11 (.ireturn) 1 12 := ⟨DX7_bestPair_c0.2.2.2.2.2.2.1, rfl⟩
theorem dX7_bestPair_12 : Dc cX7_bestPair 12 (.bipush (-5)) 2 14 := ⟨DX7_bestPair_c0.2.2.2.2.2.2.2.1, rfl⟩
theorem dX7_bestPair_14 : Dc cX7_bestPair 14 (.istore_n 2) 1 15 := ⟨DX7_bestPair_c0.2.2.2.2.2.2.2.2.1, rfl⟩
theorem dX7_bestPair_15 : Dc cX7_bestPair 15 (.bipush (-5)) 2 17 := ⟨DX7_bestPair_c0.2.2.2.2.2.2.2.2.2.1, rfl⟩
theorem dX7_bestPair_17 : Dc cX7_bestPair 17 (.istore_n 3) 1 18 := ⟨DX7_bestPair_c0.2.2.2.2.2.2.2.2.2.2.1, rfl⟩
theorem dX7_bestPair_18 : Dc cX7_bestPair 18 (.iconst 0) 1 19 := ⟨DX7_bestPair_c0.2.2.2.2.2.2.2.2.2.2.2.1, rfl⟩
theorem dX7_bestPair_19 : Dc cX7_bestPair 19 (.istore 4) 2 21 := ⟨DX7_bestPair_c0.2.2.2.2.2.2.2.2.2.2.2.2.1, rfl⟩
theorem dX7_bestPair_21 : Dc cX7_bestPair 21 (.iload 4) 2 23 := ⟨DX7_bestPair_c0.2.2.2.2.2.2.2.2.2.2.2.2.2.1, rfl⟩
theorem dX7_bestPair_23 : Dc cX7_bestPair 23 (.aload_n 0) 1 24 := ⟨DX7_bestPair_c0.2.2.2.2.2.2.2.2.2.2.2.2.2.2.1, rfl⟩
theorem dX7_bestPair_24 : Dc cX7_bestPair 24 (.getfield 7) 3 27 := ⟨DX7_bestPair_c0.2.2.2.2.2.2.2.2.2.2.2.2.2.2.2, rfl⟩
theorem DX7_bestPair_c1 : decode cX7_bestPair 27 = .ok (.bipush 31, 2) ∧ decode cX7_bestPair 29 = .ok (.iaload, 1) ∧ decode cX7_bestPair 30 = .ok (.if_icmp .ge 99, 3) ∧ decode cX7_bestPair 33 = .ok (.iload 4, 2) ∧ decode cX7_bestPair 35 = .ok (.iconst 1, 1) ∧ decode cX7_bestPair 36 = .ok (.iadd, 1) ∧ decode cX7_bestPair 37 = .ok (.istore 5, 2) ∧ decode cX7_bestPair 39 = .ok (.iload 5, 2) ∧ decode cX7_bestPair 41 = .ok (.aload_n 0, 1) ∧ decode cX7_bestPair 42 = .ok (.getfield 7, 3) ∧ decode cX7_bestPair 45 = .ok (.bipush 31, 2) ∧ decode cX7_bestPair 47 = .ok (.iaload, 1) ∧ decode cX7_bestPair 48 = .ok (.if_icmp .ge 75, 3) ∧ decode cX7_bestPair 51 = .ok (.aload_n 0, 1) ∧ decode cX7_bestPair 52 = .ok (.iload 4, 2) ∧ decode cX7_bestPair 54 = .ok (.iload 5, 2) := by decide +kernel
theorem dX7_bestPair_27 : Dc cX7_bestPair 27 (.bipush 31) 2 29 := ⟨DX7_bestPair_c1.1, rfl⟩
theorem dX7_bestPair_29 : Dc cX7_bestPair 29 (.iaload) 1 30 := ⟨DX7_bestPair_c1.2.1, rfl⟩
theorem dX7_bestPair_30 : Db cX7_bestPair 30 (fun o => .if_icmp .ge o) 33 129 := ⟨99, DX7_bestPair_c1.2.2.1, rfl, rfl⟩
theorem dX7_bestPair_33 : Dc cX7_bestPair 33 (.iload 4) 2 35 := ⟨DX7_bestPair_c1.2.2.2.1, rfl⟩
theorem dX7_bestPair_35 : Dc cX7_bestPair 35 (.iconst 1) 1 36 := ⟨DX7_bestPair_c1.2.2.2.2.1, rfl⟩
theorem dX7_bestPair_36 : Dc cX7_bestPair 36 (.iadd) 1 37 := ⟨DX7_bestPair_c1.2.2.2.2.2.1, rfl⟩
theorem dX7_bestPair_37 : Dc cX7_bestPair 37 (.istore 5) 2 39 := ⟨DX7_bestPair_c1.2.2.2.2.2.2.1, rfl⟩
theorem dX7_bestPair_39 : Dc cX7_bestPair 39 (.iload 5) 2 41 := ⟨DX7_bestPair_c1.2.2.2.2.2.2.2.1, rfl⟩
theorem dX7_bestPair_41 : Dc cX7_bestPair 41 (.aload_n 0) 1 42 := ⟨DX7_bestPair_c1.2.2.2.2.2.2.2.2.1, rfl⟩
theorem dX7_bestPair_42 : Dc cX7_bestPair 42 (.getfield 7) 3 45 := ⟨DX7_bestPair_c1.2.2.2.2.2.2.2.2.2.1, rfl⟩
theorem dX7_bestPair_45 : Dc cX7_bestPair 45 (.bipush 31) 2 47 := ⟨DX7_bestPair_c1.2.2.2.2.2.2.2.2.2.2.1, rfl⟩
theorem dX7_bestPair_47 : Dc cX7_bestPair 47 (.iaload) 1 48 := ⟨DX7_bestPair_c1.2.2.2.2.2.2.2.2.2.2.2.1, rfl⟩
theorem dX7_bestPair_48 : Db cX7_bestPair 48 (fun o => .if_icmp .ge o) 51 123 := ⟨75, DX7_bestPair_c1.2.2.2.2.2.2.2.2.2.2.2.2.1, rfl, rfl⟩
theorem dX7_bestPair_51 : Dc cX7_bestPair 51 (.aload_n 0) 1 52 := ⟨DX7_bestPair_c1.2.2.2.2.2.2.2.2.2.2.2.2.2.1, rfl⟩
theorem dX7_bestPair_52 : Dc cX7_bestPair 52 (.iload 4) 2 54 := ⟨DX7_bestPair_c1.2.2.2.2.2.2.2.2.2.2.2.2.2.2.1, rfl⟩
theorem dX7_bestPair_54 : Dc cX7_bestPair 54 (.iload 5) 2 56 := ⟨DX7_bestPair_c1.2.2.2.2.2.2.2.2.2.2.2.2.2.2.2, rfl⟩
theorem DX7_bestPair_c2 : decode cX7_bestPair 56 = .ok (.invokevirtual 78, 3) ∧ decode cX7_bestPair 59 = .ok (.ifCond .eq 19, 3) ∧ decode cX7_bestPair 62 = .ok (.aload_n 0, 1) ∧ decode cX7_bestPair 63 = .ok (.iload 4, 2) ∧ decode cX7_bestPair 65 = .ok (.iload 5, 2) ∧ decode cX7_bestPair 67 = .ok (.invokevirtual 147, 3) ∧ decode cX7_bestPair 70 = .ok (.iload_n 3, 1) ∧ decode cX7_bestPair 71 = .ok (.if_icmp .le 7, 3) ∧ decode cX7_bestPair 74 = .ok (.iconst 1, 1) ∧ decode cX7_bestPair 75 = .ok (.goto 4, 3) ∧ decode cX7_bestPair 78 = .ok (.iconst 0, 1) ∧ decode cX7_bestPair 79 = .ok (.istore 6, 2) ∧ decode cX7_bestPair 81 = .ok (.iload 6, 2) ∧ decode cX7_bestPair 83 = .ok (.ifCond .eq 14, 3) ∧ decode cX7_bestPair 86 = .ok (.bipush 10, 2) ∧ decode cX7_bestPair 88 = .ok (.iload 4, 2) := by decide +kernel
theorem dX7_bestPair_56 : Dc cX7_bestPair 56 (.invokevirtual 78) 3 59 := ⟨DX7_bestPair_c2.1, rfl⟩
theorem dX7_bestPair_59 : Db cX7_bestPair 59 (fun o => .ifCond .eq o) 62 78 := ⟨19, DX7_bestPair_c2.2.1, rfl, rfl⟩
theorem dX7_bestPair_62 : Dc cX7_bestPair 62 (.aload_n 0) 1 63 := ⟨DX7_bestPair_c2.2.2.1, rfl⟩
theorem dX7_bestPair_63 : Dc cX7_bestPair 63 (.iload 4) 2 65 := ⟨DX7_bestPair_c2.2.2.2.1, rfl⟩
theorem dX7_bestPair_65 : Dc cX7_bestPair 65 (.iload 5) 2 67 := ⟨DX7_bestPair_c2.2.2.2.2.1, rfl⟩
theorem dX7_bestPair_67 : Dc cX7_bestPair 67 (.invokevirtual 147) 3 70 := ⟨DX7_bestPair_c2.2.2.2.2.2.1, rfl⟩
theorem dX7_bestPair_70 : Dc cX7_bestPair 70 (.iload_n 3) 1 71 := ⟨DX7_bestPair_c2.2.2.2.2.2.2.1, rfl⟩
theorem dX7_bestPair_71 : Db cX7_bestPair 71 (fun o => .if_icmp .le o) 74 78 := ⟨7, DX7_bestPair_c2.2.2.2.2.2.2.2.1, rfl, rfl⟩
theorem dX7_bestPair_74 : Dc cX7_bestPair 74 (.iconst 1) 1 75 := ⟨DX7_bestPair_c2.2.2.2.2.2.2.2.2.1, rfl⟩
theorem dX7_bestPair_75 : Db cX7_bestPair 75 .goto 78 79 := ⟨4, DX7_bestPair_c2.2.2.2.2.2.2.2.2.2.1, rfl, rfl⟩
theorem dX7_bestPair_78 : Dc cX7_bestPair 78 (.iconst 0) 1 79 := ⟨DX7_bestPair_c2.2.2.2.2.2.2.2.2.2.2.1, rfl⟩
theorem dX7_bestPair_79 : Dc cX7_bestPair 79 (.istore 6) 2 81 := ⟨DX7_bestPair_c2.2.2.2.2.2.2.2.2.2.2.2.1, rfl⟩
theorem dX7_bestPair_81 : Dc cX7_bestPair 81 (.iload 6) 2 83 := ⟨DX7_bestPair_c2.2.2.2.2.2.2.2.2.2.2.2.2.1, rfl⟩
theorem dX7_bestPair_83 : Db cX7_bestPair 83 (fun o => .ifCond .eq o) 86 97 := ⟨14, DX7_bestPair_c2.2.2.2.2.2.2.2.2.2.2.2.2.2.1, rfl, rfl⟩
theorem dX7_bestPair_86 : Dc cX7_bestPair 86 (.bipush 10) 2 88 := ⟨DX7_bestPair_c2.2.2.2.2.2.2.2.2.2.2.2.2.2.2.1, rfl⟩
theorem dX7_bestPair_88 : Dc cX7_bestPair 88 (.iload 4) 2 90 := ⟨DX7_bestPair_c2.2.2.2.2.2.2.2.2.2.2.2.2.2.2.2, rfl⟩
theorem DX7_bestPair_c3 : decode cX7_bestPair 90 = .ok (.imul, 1) ∧ decode cX7_bestPair 91 = .ok (.iload 5, 2) ∧ decode cX7_bestPair 93 = .ok (.iadd, 1) ∧ decode cX7_bestPair 94 = .ok (.goto 4, 3) ∧ decode cX7_bestPair 97 = .ok (.iload_n 2, 1) ∧ decode cX7_bestPair 98 = .ok (.istore_n 2, 1) ∧ decode cX7_bestPair 99 = .ok (.iload 6, 2) ∧ decode cX7_bestPair 101 = .ok (.ifCond .eq 14, 3) ∧ decode cX7_bestPair 104 = .ok (.aload_n 0, 1) ∧ decode cX7_bestPair 105 = .ok (.iload 4, 2) ∧ decode cX7_bestPair 107 = .ok (.iload 5, 2) ∧ decode cX7_bestPair 109 = .ok (.invokevirtual 147, 3) ∧ decode cX7_bestPair 112 = .ok (.goto 4, 3) ∧ decode cX7_bestPair 115 = .ok (.iload_n 3, 1) ∧ decode cX7_bestPair 116 = .ok (.istore_n 3, 1) ∧ decode cX7_bestPair 117 = .ok (.iinc 5 1, 3) := by decide +kernel
theorem dX7_bestPair_90 : Dc cX7_bestPair 90 (.imul) 1 91 := ⟨DX7_bestPair_c3.1, rfl⟩
theorem dX7_bestPair_91 : Dc cX7_bestPair 91 (.iload 5) 2 93 := ⟨DX7_bestPair_c3.2.1, rfl⟩
theorem dX7_bestPair_93 : Dc cX7_bestPair 93 (.iadd) 1 94 := ⟨DX7_bestPair_c3.2.2.1, rfl⟩
theorem dX7_bestPair_94 : Db cX7_bestPair 94 .goto 97 98 := ⟨4, DX7_bestPair_c3.2.2.2.1, rfl, rfl⟩
theorem dX7_bestPair_97 : Dc cX7_bestPair 97 (.iload_n 2) 1 98 := ⟨DX7_bestPair_c3.2.2.2.2.1, rfl⟩
theorem dX7_bestPair_98 : Dc cX7_bestPair 98 (.istore_n 2) 1 99 := ⟨DX7_bestPair_c3.2.2.2.2.2.1, rfl⟩
theorem dX7_bestPair_99 : Dc cX7_bestPair 99 (.iload 6) 2 101 := ⟨DX7_bestPair_c3.2.2.2.2.2.2.1, rfl⟩
theorem dX7_bestPair_101 : Db cX7_bestPair 101 (fun o => .ifCond .eq o) 104 115 := ⟨14, DX7_bestPair_c3.2.2.2.2.2.2.2.1, rfl, rfl⟩
theorem dX7_bestPair_104 : Dc cX7_bestPair 104 (.aload_n 0) 1 105 := ⟨DX7_bestPair_c3.2.2.2.2.2.2.2.2.1, rfl⟩
theorem dX7_bestPair_105 : Dc cX7_bestPair 105 (.iload 4) 2 107 := ⟨DX7_bestPair_c3.2.2.2.2.2.2.2.2.2.1, rfl⟩
theorem dX7_bestPair_107 : Dc cX7_bestPair 107 (.iload 5) 2 109 := ⟨DX7_bestPair_c3.2.2.2.2.2.2.2.2.2.2.1, rfl⟩
theorem dX7_bestPair_109 : Dc cX7_bestPair 109 (.invokevirtual 147) 3 112 := ⟨DX7_bestPair_c3.2.2.2.2.2.2.2.2.2.2.2.1, rfl⟩
theorem dX7_bestPair_112 : Db cX7_bestPair 112 .goto 115 116 := ⟨4, DX7_bestPair_c3.2.2.2.2.2.2.2.2.2.2.2.2.1, rfl, rfl⟩
theorem dX7_bestPair_115 : Dc cX7_bestPair 115 (.iload_n 3) 1 116 := ⟨DX7_bestPair_c3.2.2.2.2.2.2.2.2.2.2.2.2.2.1, rfl⟩
theorem dX7_bestPair_116 : Dc cX7_bestPair 116 (.istore_n 3) 1 117 := ⟨DX7_bestPair_c3.2.2.2.2.2.2.2.2.2.2.2.2.2.2.1, rfl⟩
theorem dX7_bestPair_117 : Dc cX7_bestPair 117 (.iinc 5 1) 3 120 := ⟨DX7_bestPair_c3.2.2.2.2.2.2.2.2.2.2.2.2.2.2.2, rfl⟩
theorem DX7_bestPair_c4 : decode cX7_bestPair 120 = .ok (.goto (-81), 3) ∧ decode cX7_bestPair 123 = .ok (.iinc 4 1, 3) ∧ decode cX7_bestPair 126 = .ok (.goto (-105), 3) ∧ decode cX7_bestPair 129 = .ok (.iload_n 1, 1) ∧ decode cX7_bestPair 130 = .ok (.ifCond .ne 7, 3) ∧ decode cX7_bestPair 133 = .ok (.iload_n 2, 1) ∧ decode cX7_bestPair 134 = .ok (.goto 4, 3) ∧ decode cX7_bestPair 137 = .ok (.iload_n 3, 1) ∧ decode cX7_bestPair 138 = .ok (.ireturn, 1) := by decide +kernel
theorem dX7_bestPair_120 : Db cX7_bestPair 120 .goto 123 39 := ⟨-81, DX7_bestPair_c4.1, rfl, rfl⟩
theorem dX7_bestPair_123 : Dc cX7_bestPair 123 (.iinc 4 1) 3 126 := ⟨DX7_bestPair_c4.2.1, rfl⟩
theorem dX7_bestPair_126 : Db cX7_bestPair 126 .goto 129 21 := ⟨-105, DX7_bestPair_c4.2.2.1, rfl, rfl⟩
theorem dX7_bestPair_129 : Dc cX7_bestPair 129 (.iload_n 1) 1 130 := ⟨DX7_bestPair_c4.2.2.2.1, rfl⟩
theorem dX7_bestPair_130 : Db cX7_bestPair 130 (fun o => .ifCond .ne o) 133 137 := ⟨7, DX7_bestPair_c4.2.2.2.2.1, rfl, rfl⟩
theorem dX7_bestPair_133 : Dc cX7_bestPair 133 (.iload_n 2) 1 134 := ⟨DX7_bestPair_c4.2.2.2.2.2.1, rfl⟩
theorem dX7_bestPair_134 : Db cX7_bestPair 134 .goto 137 138 := ⟨4, DX7_bestPair_c4.2.2.2.2.2.2.1, rfl, rfl⟩
theorem dX7_bestPair_137 : Dc cX7_bestPair 137 (.iload_n 3) 1 138 := ⟨DX7_bestPair_c4.2.2.2.2.2.2.2.1, rfl⟩
theorem dX7_bestPair_138 : Dc cX7_bestPair 138 (.ireturn) 1 139 := ⟨DX7_bestPair_c4.2.2.2.2.2.2.2.2, rfl⟩
theorem DX7_fits_c0 : decode cX7_fits 0 = .ok (.aload_n 0, 1) ∧ decode cX7_fits 1 = .ok (.iload_n 1, 1) ∧ decode cX7_fits 2 = .ok (.invokevirtual 92, 3) ∧ decode cX7_fits 5 = .ok (.ifCond .eq 11, 3) ∧ decode cX7_fits 8 = .ok (.aload_n 0, 1) ∧ decode cX7_fits 9 = .ok (.iload_n 2, 1) ∧ decode cX7_fits 10 = .ok (.invokevirtual 67, 3) ∧ decode cX7_fits 13 = .ok (.ifCond .ne 5, 3) ∧ decode cX7_fits 16 = .ok (.iconst (-1), 1) ∧ decode cX7_fits 17 = .ok (.ireturn, 1) ∧ decode cX7_fits 18 = .ok (.aload_n 0, 1) ∧ decode cX7_fits 19 = .ok (.iload_n 1, 1) ∧ decode cX7_fits 20 = .ok (.invokevirtual 101, 3) ∧ decode cX7_fits 23 = .ok (.aload_n 0, 1) ∧ decode cX7_fits 24 = .ok (.iload_n 2, 1) ∧ decode cX7_fits 25 = .ok (.invokevirtual 60, 3) := by decide +kernel
theorem dX7_fits_0 : Dc cX7_fits 0 (.aload_n 0) 1 1 := ⟨DX7_fits_c0.1, rfl⟩
theorem dX7_fits_1 : Dc cX7_fits 1 (.iload_n 1) 1 2 := ⟨DX7_fits_c0.2.1, rfl⟩
theorem dX7_fits_2 : Dc cX7_fits 2 (.invokevirtual 92) 3 5 := ⟨DX7_fits_c0.2.2.1, rfl⟩
theorem dX7_fits_5 : Db cX7_fits 5 (fun o => .ifCond .eq o) 8 16 := ⟨11, DX7_fits_c0.2.2.2.1, rfl, rfl⟩
theorem dX7_fits_8 : Dc cX7_fits 8 (.aload_n 0) 1 9 := ⟨DX7_fits_c0.2.2.2.2.1, rfl⟩
theorem dX7_fits_9 : Dc cX7_fits 9 (.iload_n 2) 1 10 := ⟨DX7_fits_c0.2.2.2.2.2.1, rfl⟩
theorem dX7_fits_10 : Dc cX7_fits 10 (.invokevirtual 67) 3 13 := ⟨DX7_fits_c0.2.2.2.2.2.2.1, rfl⟩
theorem dX7_fits_13 : Db cX7_fits 13 (fun o => .ifCond .ne o) 16 18 := ⟨5, DX7_fits_c0.2.2.2.2.2.2.2.1, rfl, rfl⟩
theorem dX7_fits_16 : Dc cX7_fits 16 (.iconst (-1)) 1 17 := ⟨DX7_fits_c0.2.2.2.2.2.2.2.2.1, rfl⟩
theorem dX7_fits_17 : Dc cX7_fits 17 (.ireturn) 1 18 := ⟨DX7_fits_c0.2.2.2.2.2.2.2.2.2.1, rfl⟩
theorem dX7_fits_18 : Dc cX7_fits 18 (.aload_n 0) 1 19 := ⟨DX7_fits_c0.2.2.2.2.2.2.2.2.2.2.1, rfl⟩
theorem dX7_fits_19 : Dc cX7_fits 19 (.iload_n 1) 1 20 := ⟨DX7_fits_c0.2.2.2.2.2.2.2.2.2.2.2.1, rfl⟩
theorem dX7_fits_20 : Dc cX7_fits 20 (.invokevirtual 101) 3 23 := ⟨DX7_fits_c0.2.2.2.2.2.2.2.2.2.2.2.2.1, rfl⟩
theorem dX7_fits_23 : Dc cX7_fits 23 (.aload_n 0) 1 24 := ⟨DX7_fits_c0.2.2.2.2.2.2.2.2.2.2.2.2.2.1, rfl⟩
theorem dX7_fits_24 : Dc cX7_fits 24 (.iload_n 2) 1 25 := ⟨DX7_fits_c0.2.2.2.2.2.2.2.2.2.2.2.2.2.2.1, rfl⟩
theorem dX7_fits_25 : Dc cX7_fits 25 (.invokevirtual 60) 3 28 := ⟨DX7_fits_c0.2.2.2.2.2.2.2.2.2.2.2.2.2.2.2, rfl⟩
theorem DX7_fits_c1 : decode cX7_fits 28 = .ok (.aload_n 0, 1) ∧ decode cX7_fits 29 = .ok (.getfield 95, 3) ∧ decode cX7_fits 32 = .ok (.irem, 1) ∧ decode cX7_fits 33 = .ok (.ifCond .ne 7, 3) ∧ decode cX7_fits 36 = .ok (.iconst 1, 1) ∧ decode cX7_fits 37 = .ok (.goto 4, 3) ∧ decode cX7_fits 40 = .ok (.iconst 0, 1) ∧ decode cX7_fits 41 = .ok (.istore_n 3, 1) ∧ decode cX7_fits 42 = .ok (.iconst 0, 1) ∧ decode cX7_fits 43 = .ok (.istore 4, 2) ∧ decode cX7_fits 45 = .ok (.iload 4, 2) ∧ decode cX7_fits 47 = .ok (.aload_n 0, 1) ∧ decode cX7_fits 48 = .ok (.iload_n 2, 1) ∧ decode cX7_fits 49 = .ok (.invokevirtual 60, 3) ∧ decode cX7_fits 52 = .ok (.if_icmp .ge 88, 3) ∧ decode cX7_fits 55 = .ok (.aload_n 0, 1) := by decide +kernel
theorem dX7_fits_28 : Dc cX7_fits 28 (.aload_n 0) 1 29 := ⟨DX7_fits_c1.1, rfl⟩
theorem dX7_fits_29 : Dc cX7_fits 29 (.getfield 95) 3 32 := ⟨DX7_fits_c1.2.1, rfl⟩
theorem dX7_fits_32 : Dc cX7_fits 32 (.irem) 1 33 := ⟨DX7_fits_c1.2.2.1, rfl⟩
theorem dX7_fits_33 : Db cX7_fits 33 (fun o => .ifCond .ne o) 36 40 := ⟨7, DX7_fits_c1.2.2.2.1, rfl, rfl⟩
theorem dX7_fits_36 : Dc cX7_fits 36 (.iconst 1) 1 37 := ⟨DX7_fits_c1.2.2.2.2.1, rfl⟩
theorem dX7_fits_37 : Db cX7_fits 37 .goto 40 41 := ⟨4, DX7_fits_c1.2.2.2.2.2.1, rfl, rfl⟩
theorem dX7_fits_40 : Dc cX7_fits 40 (.iconst 0) 1 41 := ⟨DX7_fits_c1.2.2.2.2.2.2.1, rfl⟩
theorem dX7_fits_41 : Dc cX7_fits 41 (.istore_n 3) 1 42 := ⟨DX7_fits_c1.2.2.2.2.2.2.2.1, rfl⟩
theorem dX7_fits_42 : Dc cX7_fits 42 (.iconst 0) 1 43 := ⟨DX7_fits_c1.2.2.2.2.2.2.2.2.1, rfl⟩
theorem dX7_fits_43 : Dc cX7_fits 43 (.istore 4) 2 45 := ⟨DX7_fits_c1.2.2.2.2.2.2.2.2.2.1, rfl⟩
theorem dX7_fits_45 : Dc cX7_fits 45 (.iload 4) 2 47 := ⟨DX7_fits_c1.2.2.2.2.2.2.2.2.2.2.1, rfl⟩
theorem dX7_fits_47 : Dc cX7_fits 47 (.aload_n 0) 1 48 := ⟨DX7_fits_c1.2.2.2.2.2.2.2.2.2.2.2.1, rfl⟩
theorem dX7_fits_48 : Dc cX7_fits 48 (.iload_n 2) 1 49 := ⟨DX7_fits_c1.2.2.2.2.2.2.2.2.2.2.2.2.1, rfl⟩
theorem dX7_fits_49 : Dc cX7_fits 49 (.invokevirtual 60) 3 52 := ⟨DX7_fits_c1.2.2.2.2.2.2.2.2.2.2.2.2.2.1, rfl⟩
theorem dX7_fits_52 : Db cX7_fits 52 (fun o => .if_icmp .ge o) 55 140 := ⟨88, DX7_fits_c1.2.2.2.2.2.2.2.2.2.2.2.2.2.2.1, rfl, rfl⟩
theorem dX7_fits_55 : Dc cX7_fits 55 (.aload_n 0) 1 56 := ⟨DX7_fits_c1.2.2.2.2.2.2.2.2.2.2.2.2.2.2.2, rfl⟩
theorem DX7_fits_c2 : decode cX7_fits 56 = .ok (.getfield 28, 3) ∧ decode cX7_fits 59 = .ok (.iload 4, 2) ∧ decode cX7_fits 61 = .ok (.aload_n 0, 1) ∧ decode cX7_fits 62 = .ok (.getfield 95, 3) ∧ decode cX7_fits 65 = .ok (.irem, 1) ∧ decode cX7_fits 66 = .ok (.iaload, 1) ∧ decode cX7_fits 67 = .ok (.iload 4, 2) ∧ decode cX7_fits 69 = .ok (.aload_n 0, 1) ∧ decode cX7_fits 70 = .ok (.getfield 95, 3) ∧ decode cX7_fits 73 = .ok (.idiv, 1) ∧ decode cX7_fits 74 = .ok (.aload_n 0, 1) ∧ decode cX7_fits 75 = .ok (.getfield 31, 3) ∧ decode cX7_fits 78 = .ok (.iload 4, 2) ∧ decode cX7_fits 80 = .ok (.aload_n 0, 1) ∧ decode cX7_fits 81 = .ok (.getfield 95, 3) ∧ decode cX7_fits 84 = .ok (.irem, 1) := by decide +kernel
theorem dX7_fits_56 : Dc cX7_fits 56 (.getfield 28) 3 59 := ⟨DX7_fits_c2.1, rfl⟩
theorem dX7_fits_59 : Dc cX7_fits 59 (.iload 4) 2 61 := ⟨DX7_fits_c2.2.1, rfl⟩
theorem dX7_fits_61 : Dc cX7_fits 61 (.aload_n 0) 1 62 := ⟨DX7_fits_c2.2.2.1, rfl⟩
theorem dX7_fits_62 : Dc cX7_fits 62 (.getfield 95) 3 65 := ⟨DX7_fits_c2.2.2.2.1, rfl⟩
theorem dX7_fits_65 : Dc cX7_fits 65 (.irem) 1 66 := ⟨DX7_fits_c2.2.2.2.2.1, rfl⟩
theorem dX7_fits_66 : Dc cX7_fits 66 (.iaload) 1 67 := ⟨DX7_fits_c2.2.2.2.2.2.1, rfl⟩
theorem dX7_fits_67 : Dc cX7_fits 67 (.iload 4) 2 69 := ⟨DX7_fits_c2.2.2.2.2.2.2.1, rfl⟩
theorem dX7_fits_69 : Dc cX7_fits 69 (.aload_n 0) 1 70 := ⟨DX7_fits_c2.2.2.2.2.2.2.2.1, rfl⟩
theorem dX7_fits_70 : Dc cX7_fits 70 (.getfield 95) 3 73 := ⟨DX7_fits_c2.2.2.2.2.2.2.2.2.1, rfl⟩
theorem dX7_fits_73 : Dc cX7_fits 73 (.idiv) 1 74 := ⟨DX7_fits_c2.2.2.2.2.2.2.2.2.2.1, rfl⟩
theorem dX7_fits_74 : Dc cX7_fits 74 (.aload_n 0) 1 75 := ⟨DX7_fits_c2.2.2.2.2.2.2.2.2.2.2.1, rfl⟩
theorem dX7_fits_75 : Dc cX7_fits 75 (.getfield 31) 3 78 := ⟨DX7_fits_c2.2.2.2.2.2.2.2.2.2.2.2.1, rfl⟩
theorem dX7_fits_78 : Dc cX7_fits 78 (.iload 4) 2 80 := ⟨DX7_fits_c2.2.2.2.2.2.2.2.2.2.2.2.2.1, rfl⟩
theorem dX7_fits_80 : Dc cX7_fits 80 (.aload_n 0) 1 81 := ⟨DX7_fits_c2.2.2.2.2.2.2.2.2.2.2.2.2.2.1, rfl⟩
theorem dX7_fits_81 : Dc cX7_fits 81 (.getfield 95) 3 84 := ⟨DX7_fits_c2.2.2.2.2.2.2.2.2.2.2.2.2.2.2.1, rfl⟩
theorem dX7_fits_84 : Dc cX7_fits 84 (.irem) 1 85 := ⟨DX7_fits_c2.2.2.2.2.2.2.2.2.2.2.2.2.2.2.2, rfl⟩
theorem DX7_fits_c3 : decode cX7_fits 85 = .ok (.iaload, 1) ∧ decode cX7_fits 86 = .ok (.imul, 1) ∧ decode cX7_fits 87 = .ok (.iadd, 1) ∧ decode cX7_fits 88 = .ok (.istore 5, 2) ∧ decode cX7_fits 90 = .ok (.iload_n 3, 1) ∧ decode cX7_fits 91 = .ok (.ifCond .eq 41, 3) ∧ decode cX7_fits 94 = .ok (.aload_n 0, 1) ∧ decode cX7_fits 95 = .ok (.iload_n 2, 1) ∧ decode cX7_fits 96 = .ok (.iload 4, 2) ∧ decode cX7_fits 98 = .ok (.invokevirtual 71, 3) ∧ decode cX7_fits 101 = .ok (.aload_n 0, 1) ∧ decode cX7_fits 102 = .ok (.getfield 25, 3) ∧ decode cX7_fits 105 = .ok (.iload 4, 2) ∧ decode cX7_fits 107 = .ok (.aload_n 0, 1) ∧ decode cX7_fits 108 = .ok (.getfield 95, 3) ∧ decode cX7_fits 111 = .ok (.irem, 1) := by decide +kernel
theorem dX7_fits_85 : Dc cX7_fits 85 (.iaload) 1 86 := ⟨DX7_fits_c3.1, rfl⟩
theorem dX7_fits_86 : Dc cX7_fits 86 (.imul) 1 87 := ⟨DX7_fits_c3.2.1, rfl⟩
theorem dX7_fits_87 : Dc cX7_fits 87 (.iadd) 1 88 := ⟨DX7_fits_c3.2.2.1, rfl⟩
theorem dX7_fits_88 : Dc cX7_fits 88 (.istore 5) 2 90 := ⟨DX7_fits_c3.2.2.2.1, rfl⟩
theorem dX7_fits_90 : Dc cX7_fits 90 (.iload_n 3) 1 91 := ⟨DX7_fits_c3.2.2.2.2.1, rfl⟩
theorem dX7_fits_91 : Db cX7_fits 91 (fun o => .ifCond .eq o) 94 132 := ⟨41, DX7_fits_c3.2.2.2.2.2.1, rfl, rfl⟩
theorem dX7_fits_94 : Dc cX7_fits 94 (.aload_n 0) 1 95 := ⟨DX7_fits_c3.2.2.2.2.2.2.1, rfl⟩
theorem dX7_fits_95 : Dc cX7_fits 95 (.iload_n 2) 1 96 := ⟨DX7_fits_c3.2.2.2.2.2.2.2.1, rfl⟩
theorem dX7_fits_96 : Dc cX7_fits 96 (.iload 4) 2 98 := ⟨DX7_fits_c3.2.2.2.2.2.2.2.2.1, rfl⟩
theorem dX7_fits_98 : Dc cX7_fits 98 (.invokevirtual 71) 3 101 := ⟨DX7_fits_c3.2.2.2.2.2.2.2.2.2.1, rfl⟩
theorem dX7_fits_101 : Dc cX7_fits 101 (.aload_n 0) 1 102 := ⟨DX7_fits_c3.2.2.2.2.2.2.2.2.2.2.1, rfl⟩
theorem dX7_fits_102 : Dc cX7_fits 102 (.getfield 25) 3 105 := ⟨DX7_fits_c3.2.2.2.2.2.2.2.2.2.2.2.1, rfl⟩
theorem dX7_fits_105 : Dc cX7_fits 105 (.iload 4) 2 107 := ⟨DX7_fits_c3.2.2.2.2.2.2.2.2.2.2.2.2.1, rfl⟩
theorem dX7_fits_107 : Dc cX7_fits 107 (.aload_n 0) 1 108 := ⟨DX7_fits_c3.2.2.2.2.2.2.2.2.2.2.2.2.2.1, rfl⟩
theorem dX7_fits_108 : Dc cX7_fits 108 (.getfield 95) 3 111 := ⟨DX7_fits_c3.2.2.2.2.2.2.2.2.2.2.2.2.2.2.1, rfl⟩
theorem dX7_fits_111 : Dc cX7_fits 111 (.irem) 1 112 := ⟨DX7_fits_c3.2.2.2.2.2.2.2.2.2.2.2.2.2.2.2, rfl⟩
theorem DX7_fits_c4 : decode cX7_fits 112 = .ok (.iaload, 1) ∧ decode cX7_fits 113 = .ok (.if_icmp .ne 19, 3) ∧ decode cX7_fits 116 = .ok (.aload_n 0, 1) ∧ decode cX7_fits 117 = .ok (.iload_n 2, 1) ∧ decode cX7_fits 118 = .ok (.iload 4, 2) ∧ decode cX7_fits 120 = .ok (.invokevirtual 75, 3) ∧ decode cX7_fits 123 = .ok (.iload 5, 2) ∧ decode cX7_fits 125 = .ok (.if_icmp .ne 7, 3) ∧ decode cX7_fits 128 = .ok (.iconst 1, 1) ∧ decode cX7_fits 129 = .ok (.goto 4, 3) ∧ decode cX7_fits 132 = .ok (.iconst 0, 1) ∧ decode cX7_fits 133 = .ok (.istore_n 3, 1) ∧ decode cX7_fits 134 = .ok (.iinc 4 1, 3) ∧ decode cX7_fits 137 = .ok (.goto (-92), 3) ∧ decode cX7_fits 140 = .ok (.iload_n 3, 1) ∧ decode cX7_fits 141 = .ok (.ifCond .eq 16, 3) := by decide +kernel
theorem dX7_fits_112 : Dc cX7_fits 112 (.iaload) 1 113 := ⟨DX7_fits_c4.1, rfl⟩
theorem dX7_fits_113 : Db cX7_fits 113 (fun o => .if_icmp .ne o) 116 132 := ⟨19, DX7_fits_c4.2.1, rfl, rfl⟩
theorem dX7_fits_116 : Dc cX7_fits 116 (.aload_n 0) 1 117 := ⟨DX7_fits_c4.2.2.1, rfl⟩
theorem dX7_fits_117 : Dc cX7_fits 117 (.iload_n 2) 1 118 := ⟨DX7_fits_c4.2.2.2.1, rfl⟩
theorem dX7_fits_118 : Dc cX7_fits 118 (.iload 4) 2 120 := ⟨DX7_fits_c4.2.2.2.2.1, rfl⟩
theorem dX7_fits_120 : Dc cX7_fits 120 (.invokevirtual 75) 3 123 := ⟨DX7_fits_c4.2.2.2.2.2.1, rfl⟩
theorem dX7_fits_123 : Dc cX7_fits 123 (.iload 5) 2 125 := ⟨DX7_fits_c4.2.2.2.2.2.2.1, rfl⟩
theorem dX7_fits_125 : Db cX7_fits 125 (fun o => .if_icmp .ne o) 128 132 := ⟨7, DX7_fits_c4.2.2.2.2.2.2.2.1, rfl, rfl⟩
theorem dX7_fits_128 : Dc cX7_fits 128 (.iconst 1) 1 129 := ⟨DX7_fits_c4.2.2.2.2.2.2.2.2.1, rfl⟩
theorem dX7_fits_129 : Db cX7_fits 129 .goto 132 133 := ⟨4, DX7_fits_c4.2.2.2.2.2.2.2.2.2.1, rfl, rfl⟩
theorem dX7_fits_132 : Dc cX7_fits 132 (.iconst 0) 1 133 := ⟨DX7_fits_c4.2.2.2.2.2.2.2.2.2.2.1, rfl⟩
theorem dX7_fits_133 : Dc cX7_fits 133 (.istore_n 3) 1 134 := ⟨DX7_fits_c4.2.2.2.2.2.2.2.2.2.2.2.1, rfl⟩
theorem dX7_fits_134 : Dc cX7_fits 134 (.iinc 4 1) 3 137 := ⟨DX7_fits_c4.2.2.2.2.2.2.2.2.2.2.2.2.1, rfl⟩
theorem dX7_fits_137 : Db cX7_fits 137 .goto 140 45 := ⟨-92, DX7_fits_c4.2.2.2.2.2.2.2.2.2.2.2.2.2.1, rfl, rfl⟩
theorem dX7_fits_140 : Dc cX7_fits 140 (.iload_n 3) 1 141 := ⟨DX7_fits_c4.2.2.2.2.2.2.2.2.2.2.2.2.2.2.1, rfl⟩
theorem dX7_fits_141 : Db cX7_fits 141 (fun o => .ifCond .eq o) 144 157 := ⟨16, DX7_fits_c4.2.2.2.2.2.2.2.2.2.2.2.2.2.2.2, rfl, rfl⟩
theorem DX7_fits_c5 : decode cX7_fits 144 = .ok (.aload_n 0, 1) ∧ decode cX7_fits 145 = .ok (.iload_n 2, 1) ∧ decode cX7_fits 146 = .ok (.invokevirtual 60, 3) ∧ decode cX7_fits 149 = .ok (.aload_n 0, 1) ∧ decode cX7_fits 150 = .ok (.getfield 95, 3) ∧ decode cX7_fits 153 = .ok (.idiv, 1) ∧ decode cX7_fits 154 = .ok (.goto 5, 3) ∧ decode cX7_fits 157 = .ok (.bipush (-5), 2) ∧ decode cX7_fits 159 = .ok (.ireturn, 1) := by decide +kernel
theorem dX7_fits_144 : Dc cX7_fits 144 (.aload_n 0) 1 145 := ⟨DX7_fits_c5.1, rfl⟩
theorem dX7_fits_145 : Dc cX7_fits 145 (.iload_n 2) 1 146 := ⟨DX7_fits_c5.2.1, rfl⟩
theorem dX7_fits_146 : Dc cX7_fits 146 (.invokevirtual 60) 3 149 := ⟨DX7_fits_c5.2.2.1, rfl⟩
theorem dX7_fits_149 : Dc cX7_fits 149 (.aload_n 0) 1 150 := ⟨DX7_fits_c5.2.2.2.1, rfl⟩
theorem dX7_fits_150 : Dc cX7_fits 150 (.getfield 95) 3 153 := ⟨DX7_fits_c5.2.2.2.2.1, rfl⟩
theorem dX7_fits_153 : Dc cX7_fits 153 (.idiv) 1 154 := ⟨DX7_fits_c5.2.2.2.2.2.1, rfl⟩
theorem dX7_fits_154 : Db cX7_fits 154 .goto 157 159 := ⟨5, DX7_fits_c5.2.2.2.2.2.2.1, rfl, rfl⟩
theorem dX7_fits_157 : Dc cX7_fits 157 (.bipush (-5)) 2 159 := ⟨DX7_fits_c5.2.2.2.2.2.2.2.1, rfl⟩
theorem dX7_fits_159 : Dc cX7_fits 159 (.ireturn) 1 160 := ⟨DX7_fits_c5.2.2.2.2.2.2.2.2, rfl⟩
theorem DX7_mostTurns_c0 : decode cX7_mostTurns 0 = .ok (.aload_n 0, 1) ∧ decode cX7_mostTurns 1 = .ok (.iload_n 1, 1) ∧ decode cX7_mostTurns 2 = .ok (.invokevirtual 92, 3) ∧ decode cX7_mostTurns 5 = .ok (.ifCond .ne 5, 3) ∧ decode cX7_mostTurns 8 = .ok (.iconst (-1), 1) ∧ decode cX7_mostTurns 9 = .ok (.ireturn, 1) ∧ decode cX7_mostTurns 10 = .ok (.aload_n 0, 1) ∧ decode cX7_mostTurns 11 = .ok (.iload_n 1, 1) ∧ decode cX7_mostTurns 12 = .ok (.invokevirtual 101, 3) ∧ decode cX7_mostTurns 15 = .ok (.bipush (-5), 2) ∧ decode cX7_mostTurns 17 = .ok (.istore_n 2, 1) ∧ decode cX7_mostTurns 18 = .ok (.iconst 0, 1) ∧ decode cX7_mostTurns 19 = .ok (.istore_n 3, 1) ∧ decode cX7_mostTurns 20 = .ok (.iload_n 3, 1) ∧ decode cX7_mostTurns 21 = .ok (.aload_n 0, 1) ∧ decode cX7_mostTurns 22 = .ok (.getfield 95, 3) := by decide +kernel
theorem dX7_mostTurns_0 : Dc cX7_mostTurns 0 (.aload_n 0) 1 1 := ⟨DX7_mostTurns_c0.1, rfl⟩
theorem dX7_mostTurns_1 : Dc cX7_mostTurns 1 (.iload_n 1) 1 2 := ⟨DX7_mostTurns_c0.2.1, rfl⟩
theorem dX7_mostTurns_2 : Dc cX7_mostTurns 2 (.invokevirtual 92) 3 5 := ⟨DX7_mostTurns_c0.2.2.1, rfl⟩
theorem dX7_mostTurns_5 : Db cX7_mostTurns 5 (fun o => .ifCond .ne o) 8 10 := ⟨5, DX7_mostTurns_c0.2.2.2.1, rfl, rfl⟩
theorem dX7_mostTurns_8 : Dc cX7_mostTurns 8 (.iconst (-1)) 1 9 := ⟨DX7_mostTurns_c0.2.2.2.2.1, rfl⟩
theorem dX7_mostTurns_9 : Dc cX7_mostTurns 9 (.ireturn) 1 10 := ⟨DX7_mostTurns_c0.2.2.2.2.2.1, rfl⟩
theorem dX7_mostTurns_10 : Dc cX7_mostTurns 10 (.aload_n 0) 1 11 := ⟨DX7_mostTurns_c0.2.2.2.2.2.2.1, rfl⟩
theorem dX7_mostTurns_11 : Dc cX7_mostTurns 11 (.iload_n 1) 1 12 := ⟨DX7_mostTurns_c0.2.2.2.2.2.2.2.1, rfl⟩
theorem dX7_mostTurns_12 : Dc cX7_mostTurns 12 (.invokevirtual 101) 3 15 := ⟨DX7_mostTurns_c0.2.2.2.2.2.2.2.2.1, rfl⟩
theorem dX7_mostTurns_15 : Dc cX7_mostTurns 15 (.bipush (-5)) 2 17 := ⟨DX7_mostTurns_c0.2.2.2.2.2.2.2.2.2.1, rfl⟩
theorem dX7_mostTurns_17 : Dc cX7_mostTurns 17 (.istore_n 2) 1 18 := ⟨DX7_mostTurns_c0.2.2.2.2.2.2.2.2.2.2.1, rfl⟩
theorem dX7_mostTurns_18 : Dc cX7_mostTurns 18 (.iconst 0) 1 19 := ⟨DX7_mostTurns_c0.2.2.2.2.2.2.2.2.2.2.2.1, rfl⟩
theorem dX7_mostTurns_19 : Dc cX7_mostTurns 19 (.istore_n 3) 1 20 := ⟨DX7_mostTurns_c0.2.2.2.2.2.2.2.2.2.2.2.2.1, rfl⟩
theorem dX7_mostTurns_20 : Dc cX7_mostTurns 20 (.iload_n 3) 1 21 := ⟨DX7_mostTurns_c0.2.2.2.2.2.2.2.2.2.2.2.2.2.1, rfl⟩
theorem dX7_mostTurns_21 : Dc cX7_mostTurns 21 (.aload_n 0) 1 22 := ⟨DX7_mostTurns_c0.2.2.2.2.2.2.2.2.2.2.2.2.2.2.1, rfl⟩
theorem dX7_mostTurns_22 : Dc cX7_mostTurns 22 (.getfield 95) 3 25 := ⟨DX7_mostTurns_c0.2.2.2.2.2.2.2.2.2.2.2.2.2.2.2, rfl⟩
theorem DX7_mostTurns_c1 : decode cX7_mostTurns 25 = .ok (.if_icmp .ge 94, 3) ∧ decode cX7_mostTurns 28 = .ok (.aload_n 0, 1) ∧ decode cX7_mostTurns 29 = .ok (.getfield 31, 3) ∧ decode cX7_mostTurns 32 = .ok (.iload_n 3, 1) ∧ decode cX7_mostTurns 33 = .ok (.iaload, 1) ∧ decode cX7_mostTurns 34 = .ok (.istore 4, 2) ∧ decode cX7_mostTurns 36 = .ok (.iload 4, 2) ∧ decode cX7_mostTurns 38 = .ok (.ifCond .ne 8, 3) ∧ decode cX7_mostTurns 41 = .ok (.bipush (-5), 2) ∧ decode cX7_mostTurns 43 = .ok (.goto 42, 3) ∧ decode cX7_mostTurns 46 = .ok (.iconst 1, 1) ∧ decode cX7_mostTurns 47 = .ok (.iload 4, 2) ∧ decode cX7_mostTurns 49 = .ok (.ifCond .le 25, 3) ∧ decode cX7_mostTurns 52 = .ok (.aload_n 0, 1) ∧ decode cX7_mostTurns 53 = .ok (.getfield 25, 3) ∧ decode cX7_mostTurns 56 = .ok (.iload_n 3, 1) := by decide +kernel
theorem dX7_mostTurns_25 : Db cX7_mostTurns 25 (fun o => .if_icmp .ge o) 28 119 := ⟨94, DX7_mostTurns_c1.1, rfl, rfl⟩
theorem dX7_mostTurns_28 : Dc cX7_mostTurns 28 (.aload_n 0) 1 29 := ⟨DX7_mostTurns_c1.2.1, rfl⟩
theorem dX7_mostTurns_29 : Dc cX7_mostTurns 29 (.getfield 31) 3 32 := ⟨DX7_mostTurns_c1.2.2.1, rfl⟩
theorem dX7_mostTurns_32 : Dc cX7_mostTurns 32 (.iload_n 3) 1 33 := ⟨DX7_mostTurns_c1.2.2.2.1, rfl⟩
theorem dX7_mostTurns_33 : Dc cX7_mostTurns 33 (.iaload) 1 34 := ⟨DX7_mostTurns_c1.2.2.2.2.1, rfl⟩
theorem dX7_mostTurns_34 : Dc cX7_mostTurns 34 (.istore 4) 2 36 := ⟨DX7_mostTurns_c1.2.2.2.2.2.1, rfl⟩
theorem dX7_mostTurns_36 : Dc cX7_mostTurns 36 (.iload 4) 2 38 := ⟨DX7_mostTurns_c1.2.2.2.2.2.2.1, rfl⟩
theorem dX7_mostTurns_38 : Db cX7_mostTurns 38 (fun o => .ifCond .ne o) 41 46 := ⟨8, DX7_mostTurns_c1.2.2.2.2.2.2.2.1, rfl, rfl⟩
theorem dX7_mostTurns_41 : Dc cX7_mostTurns 41 (.bipush (-5)) 2 43 := ⟨DX7_mostTurns_c1.2.2.2.2.2.2.2.2.1, rfl⟩
theorem dX7_mostTurns_43 : Db cX7_mostTurns 43 .goto 46 85 := ⟨42, DX7_mostTurns_c1.2.2.2.2.2.2.2.2.2.1, rfl, rfl⟩
theorem dX7_mostTurns_46 : Dc cX7_mostTurns 46 (.iconst 1) 1 47 := ⟨DX7_mostTurns_c1.2.2.2.2.2.2.2.2.2.2.1, rfl⟩
theorem dX7_mostTurns_47 : Dc cX7_mostTurns 47 (.iload 4) 2 49 := ⟨DX7_mostTurns_c1.2.2.2.2.2.2.2.2.2.2.2.1, rfl⟩
theorem dX7_mostTurns_49 : Db cX7_mostTurns 49 (fun o => .ifCond .le o) 52 74 := ⟨25, DX7_mostTurns_c1.2.2.2.2.2.2.2.2.2.2.2.2.1, rfl, rfl⟩
theorem dX7_mostTurns_52 : Dc cX7_mostTurns 52 (.aload_n 0) 1 53 := ⟨DX7_mostTurns_c1.2.2.2.2.2.2.2.2.2.2.2.2.2.1, rfl⟩
theorem dX7_mostTurns_53 : Dc cX7_mostTurns 53 (.getfield 25) 3 56 := ⟨DX7_mostTurns_c1.2.2.2.2.2.2.2.2.2.2.2.2.2.2.1, rfl⟩
theorem dX7_mostTurns_56 : Dc cX7_mostTurns 56 (.iload_n 3) 1 57 := ⟨DX7_mostTurns_c1.2.2.2.2.2.2.2.2.2.2.2.2.2.2.2, rfl⟩
theorem DX7_mostTurns_c2 : decode cX7_mostTurns 57 = .ok (.iaload, 1) ∧ decode cX7_mostTurns 58 = .ok (.invokestatic 56, 3) ∧ decode cX7_mostTurns 61 = .ok (.aload_n 0, 1) ∧ decode cX7_mostTurns 62 = .ok (.getfield 28, 3) ∧ decode cX7_mostTurns 65 = .ok (.iload_n 3, 1) ∧ decode cX7_mostTurns 66 = .ok (.iaload, 1) ∧ decode cX7_mostTurns 67 = .ok (.isub, 1) ∧ decode cX7_mostTurns 68 = .ok (.iload 4, 2) ∧ decode cX7_mostTurns 70 = .ok (.idiv, 1) ∧ decode cX7_mostTurns 71 = .ok (.goto 13, 3) ∧ decode cX7_mostTurns 74 = .ok (.aload_n 0, 1) ∧ decode cX7_mostTurns 75 = .ok (.getfield 28, 3) ∧ decode cX7_mostTurns 78 = .ok (.iload_n 3, 1) ∧ decode cX7_mostTurns 79 = .ok (.iaload, 1) ∧ decode cX7_mostTurns 80 = .ok (.iload 4, 2) ∧ decode cX7_mostTurns 82 = .ok (.ineg, 1) := by decide +kernel
theorem dX7_mostTurns_57 : Dc cX7_mostTurns 57 (.iaload) 1 58 := ⟨DX7_mostTurns_c2.1, rfl⟩
theorem dX7_mostTurns_58 : Dc cX7_mostTurns 58 (.invokestatic 56) 3 61 := ⟨DX7_mostTurns_c2.2.1, rfl⟩
theorem dX7_mostTurns_61 : Dc cX7_mostTurns 61 (.aload_n 0) 1 62 := ⟨DX7_mostTurns_c2.2.2.1, rfl⟩
theorem dX7_mostTurns_62 : Dc cX7_mostTurns 62 (.getfield 28) 3 65 := ⟨DX7_mostTurns_c2.2.2.2.1, rfl⟩
theorem dX7_mostTurns_65 : Dc cX7_mostTurns 65 (.iload_n 3) 1 66 := ⟨DX7_mostTurns_c2.2.2.2.2.1, rfl⟩
theorem dX7_mostTurns_66 : Dc cX7_mostTurns 66 (.iaload) 1 67 := ⟨DX7_mostTurns_c2.2.2.2.2.2.1, rfl⟩
theorem dX7_mostTurns_67 : Dc cX7_mostTurns 67 (.isub) 1 68 := ⟨DX7_mostTurns_c2.2.2.2.2.2.2.1, rfl⟩
theorem dX7_mostTurns_68 : Dc cX7_mostTurns 68 (.iload 4) 2 70 := ⟨DX7_mostTurns_c2.2.2.2.2.2.2.2.1, rfl⟩
theorem dX7_mostTurns_70 : Dc cX7_mostTurns 70 (.idiv) 1 71 := ⟨DX7_mostTurns_c2.2.2.2.2.2.2.2.2.1, rfl⟩
theorem dX7_mostTurns_71 : Db cX7_mostTurns 71 .goto 74 84 := ⟨13, DX7_mostTurns_c2.2.2.2.2.2.2.2.2.2.1, rfl, rfl⟩
theorem dX7_mostTurns_74 : Dc cX7_mostTurns 74 (.aload_n 0) 1 75 := ⟨DX7_mostTurns_c2.2.2.2.2.2.2.2.2.2.2.1, rfl⟩
theorem dX7_mostTurns_75 : Dc cX7_mostTurns 75 (.getfield 28) 3 78 := ⟨DX7_mostTurns_c2.2.2.2.2.2.2.2.2.2.2.2.1, rfl⟩
theorem dX7_mostTurns_78 : Dc cX7_mostTurns 78 (.iload_n 3) 1 79 := ⟨DX7_mostTurns_c2.2.2.2.2.2.2.2.2.2.2.2.2.1, rfl⟩
theorem dX7_mostTurns_79 : Dc cX7_mostTurns 79 (.iaload) 1 80 := ⟨DX7_mostTurns_c2.2.2.2.2.2.2.2.2.2.2.2.2.2.1, rfl⟩
theorem dX7_mostTurns_80 : Dc cX7_mostTurns 80 (.iload 4) 2 82 := ⟨DX7_mostTurns_c2.2.2.2.2.2.2.2.2.2.2.2.2.2.2.1, rfl⟩
theorem dX7_mostTurns_82 : Dc cX7_mostTurns 82 (.ineg) 1 83 := ⟨DX7_mostTurns_c2.2.2.2.2.2.2.2.2.2.2.2.2.2.2.2, rfl⟩
theorem DX7_mostTurns_c3 : decode cX7_mostTurns 83 = .ok (.idiv, 1) ∧ decode cX7_mostTurns 84 = .ok (.iadd, 1) ∧ decode cX7_mostTurns 85 = .ok (.istore 5, 2) ∧ decode cX7_mostTurns 87 = .ok (.iload 5, 2) ∧ decode cX7_mostTurns 89 = .ok (.bipush (-5), 2) ∧ decode cX7_mostTurns 91 = .ok (.if_icmp .eq 20, 3) ∧ decode cX7_mostTurns 94 = .ok (.iload_n 2, 1) ∧ decode cX7_mostTurns 95 = .ok (.bipush (-5), 2) ∧ decode cX7_mostTurns 97 = .ok (.if_icmp .eq 9, 3) ∧ decode cX7_mostTurns 100 = .ok (.iload 5, 2) ∧ decode cX7_mostTurns 102 = .ok (.iload_n 2, 1) ∧ decode cX7_mostTurns 103 = .ok (.if_icmp .ge 8, 3) ∧ decode cX7_mostTurns 106 = .ok (.iload 5, 2) ∧ decode cX7_mostTurns 108 = .ok (.goto 4, 3) ∧ decode cX7_mostTurns 111 = .ok (.iload_n 2, 1) ∧ decode cX7_mostTurns 112 = .ok (.istore_n 2, 1) := by decide +kernel
theorem dX7_mostTurns_83 : Dc cX7_mostTurns 83 (.idiv) 1 84 := ⟨DX7_mostTurns_c3.1, rfl⟩
theorem dX7_mostTurns_84 : Dc cX7_mostTurns 84 (.iadd) 1 85 := ⟨DX7_mostTurns_c3.2.1, rfl⟩
theorem dX7_mostTurns_85 : Dc cX7_mostTurns 85 (.istore 5) 2 87 := ⟨DX7_mostTurns_c3.2.2.1, rfl⟩
theorem dX7_mostTurns_87 : Dc cX7_mostTurns 87 (.iload 5) 2 89 := ⟨DX7_mostTurns_c3.2.2.2.1, rfl⟩
theorem dX7_mostTurns_89 : Dc cX7_mostTurns 89 (.bipush (-5)) 2 91 := ⟨DX7_mostTurns_c3.2.2.2.2.1, rfl⟩
theorem dX7_mostTurns_91 : Db cX7_mostTurns 91 (fun o => .if_icmp .eq o) 94 111 := ⟨20, DX7_mostTurns_c3.2.2.2.2.2.1, rfl, rfl⟩
theorem dX7_mostTurns_94 : Dc cX7_mostTurns 94 (.iload_n 2) 1 95 := ⟨DX7_mostTurns_c3.2.2.2.2.2.2.1, rfl⟩
theorem dX7_mostTurns_95 : Dc cX7_mostTurns 95 (.bipush (-5)) 2 97 := ⟨DX7_mostTurns_c3.2.2.2.2.2.2.2.1, rfl⟩
theorem dX7_mostTurns_97 : Db cX7_mostTurns 97 (fun o => .if_icmp .eq o) 100 106 := ⟨9, DX7_mostTurns_c3.2.2.2.2.2.2.2.2.1, rfl, rfl⟩
theorem dX7_mostTurns_100 : Dc cX7_mostTurns 100 (.iload 5) 2 102 := ⟨DX7_mostTurns_c3.2.2.2.2.2.2.2.2.2.1, rfl⟩
theorem dX7_mostTurns_102 : Dc cX7_mostTurns 102 (.iload_n 2) 1 103 := ⟨DX7_mostTurns_c3.2.2.2.2.2.2.2.2.2.2.1, rfl⟩
theorem dX7_mostTurns_103 : Db cX7_mostTurns 103 (fun o => .if_icmp .ge o) 106 111 := ⟨8, DX7_mostTurns_c3.2.2.2.2.2.2.2.2.2.2.2.1, rfl, rfl⟩
theorem dX7_mostTurns_106 : Dc cX7_mostTurns 106 (.iload 5) 2 108 := ⟨DX7_mostTurns_c3.2.2.2.2.2.2.2.2.2.2.2.2.1, rfl⟩
theorem dX7_mostTurns_108 : Db cX7_mostTurns 108 .goto 111 112 := ⟨4, DX7_mostTurns_c3.2.2.2.2.2.2.2.2.2.2.2.2.2.1, rfl, rfl⟩
theorem dX7_mostTurns_111 : Dc cX7_mostTurns 111 (.iload_n 2) 1 112 := ⟨DX7_mostTurns_c3.2.2.2.2.2.2.2.2.2.2.2.2.2.2.1, rfl⟩
theorem dX7_mostTurns_112 : Dc cX7_mostTurns 112 (.istore_n 2) 1 113 := ⟨DX7_mostTurns_c3.2.2.2.2.2.2.2.2.2.2.2.2.2.2.2, rfl⟩
theorem DX7_mostTurns_c4 : decode cX7_mostTurns 113 = .ok (.iinc 3 1, 3) ∧ decode cX7_mostTurns 116 = .ok (.goto (-96), 3) ∧ decode cX7_mostTurns 119 = .ok (.iload_n 2, 1) ∧ decode cX7_mostTurns 120 = .ok (.ireturn, 1) := by decide +kernel
theorem dX7_mostTurns_113 : Dc cX7_mostTurns 113 (.iinc 3 1) 3 116 := ⟨DX7_mostTurns_c4.1, rfl⟩
theorem dX7_mostTurns_116 : Db cX7_mostTurns 116 .goto 119 20 := ⟨-96, DX7_mostTurns_c4.2.1, rfl, rfl⟩
theorem dX7_mostTurns_119 : Dc cX7_mostTurns 119 (.iload_n 2) 1 120 := ⟨DX7_mostTurns_c4.2.2.1, rfl⟩
theorem dX7_mostTurns_120 : Dc cX7_mostTurns 120 (.ireturn) 1 121 := ⟨DX7_mostTurns_c4.2.2.2, rfl⟩
theorem DX7_tests_c0 : decode cX7_tests 0 = .ok (.iconst 0, 1) ∧ decode cX7_tests 1 = .ok (.istore_n 2, 1) ∧ decode cX7_tests 2 = .ok (.iconst 0, 1) ∧ decode cX7_tests 3 = .ok (.istore_n 3, 1) ∧ decode cX7_tests 4 = .ok (.iload_n 3, 1) ∧ decode cX7_tests 5 = .ok (.iload_n 1, 1) ∧ decode cX7_tests 6 = .ok (.if_icmp .ge 32, 3) ∧ decode cX7_tests 9 = .ok (.iload_n 2, 1) ∧ decode cX7_tests 10 = .ok (.aload_n 0, 1) ∧ decode cX7_tests 11 = .ok (.getfield 25, 3) ∧ decode cX7_tests 14 = .ok (.iload_n 3, 1) ∧ decode cX7_tests 15 = .ok (.aload_n 0, 1) ∧ decode cX7_tests 16 = .ok (.getfield 95, 3) ∧ decode cX7_tests 19 = .ok (.irem, 1) ∧ decode cX7_tests 20 = .ok (.iaload, 1) ∧ decode cX7_tests 21 = .ok (.iconst 4, 1) := by decide +kernel
theorem dX7_tests_0 : Dc cX7_tests 0 (.iconst 0) 1 1 := ⟨DX7_tests_c0.1, rfl⟩
theorem dX7_tests_1 : Dc cX7_tests 1 (.istore_n 2) 1 2 := ⟨DX7_tests_c0.2.1, rfl⟩
theorem dX7_tests_2 : Dc cX7_tests 2 (.iconst 0) 1 3 := ⟨DX7_tests_c0.2.2.1, rfl⟩
theorem dX7_tests_3 : Dc cX7_tests 3 (.istore_n 3) 1 4 := ⟨DX7_tests_c0.2.2.2.1, rfl⟩
theorem dX7_tests_4 : Dc cX7_tests 4 (.iload_n 3) 1 5 := ⟨DX7_tests_c0.2.2.2.2.1, rfl⟩
theorem dX7_tests_5 : Dc cX7_tests 5 (.iload_n 1) 1 6 := ⟨DX7_tests_c0.2.2.2.2.2.1, rfl⟩
theorem dX7_tests_6 : Db cX7_tests 6 (fun o => .if_icmp .ge o) 9 38 := ⟨32, DX7_tests_c0.2.2.2.2.2.2.1, rfl, rfl⟩
theorem dX7_tests_9 : Dc cX7_tests 9 (.iload_n 2) 1 10 := ⟨DX7_tests_c0.2.2.2.2.2.2.2.1, rfl⟩
theorem dX7_tests_10 : Dc cX7_tests 10 (.aload_n 0) 1 11 := ⟨DX7_tests_c0.2.2.2.2.2.2.2.2.1, rfl⟩
theorem dX7_tests_11 : Dc cX7_tests 11 (.getfield 25) 3 14 := ⟨DX7_tests_c0.2.2.2.2.2.2.2.2.2.1, rfl⟩
theorem dX7_tests_14 : Dc cX7_tests 14 (.iload_n 3) 1 15 := ⟨DX7_tests_c0.2.2.2.2.2.2.2.2.2.2.1, rfl⟩
theorem dX7_tests_15 : Dc cX7_tests 15 (.aload_n 0) 1 16 := ⟨DX7_tests_c0.2.2.2.2.2.2.2.2.2.2.2.1, rfl⟩
theorem dX7_tests_16 : Dc cX7_tests 16 (.getfield 95) 3 19 := ⟨DX7_tests_c0.2.2.2.2.2.2.2.2.2.2.2.2.1, rfl⟩
theorem dX7_tests_19 : Dc cX7_tests 19 (.irem) 1 20 := ⟨DX7_tests_c0.2.2.2.2.2.2.2.2.2.2.2.2.2.1, rfl⟩
theorem dX7_tests_20 : Dc cX7_tests 20 (.iaload) 1 21 := ⟨DX7_tests_c0.2.2.2.2.2.2.2.2.2.2.2.2.2.2.1, rfl⟩
theorem dX7_tests_21 : Dc cX7_tests 21 (.iconst 4) 1 22 := ⟨DX7_tests_c0.2.2.2.2.2.2.2.2.2.2.2.2.2.2.2, rfl⟩
theorem DX7_tests_c1 : decode cX7_tests 22 = .ok (.if_icmp .le 7, 3) ∧ decode cX7_tests 25 = .ok (.iconst 1, 1) ∧ decode cX7_tests 26 = .ok (.goto 4, 3) ∧ decode cX7_tests 29 = .ok (.iconst 0, 1) ∧ decode cX7_tests 30 = .ok (.iadd, 1) ∧ decode cX7_tests 31 = .ok (.istore_n 2, 1) ∧ decode cX7_tests 32 = .ok (.iinc 3 1, 3) ∧ decode cX7_tests 35 = .ok (.goto (-31), 3) ∧ decode cX7_tests 38 = .ok (.iload_n 2, 1) ∧ decode cX7_tests 39 = .ok (.ireturn, 1) := by decide +kernel
theorem dX7_tests_22 : Db cX7_tests 22 (fun o => .if_icmp .le o) 25 29 := ⟨7, DX7_tests_c1.1, rfl, rfl⟩
theorem dX7_tests_25 : Dc cX7_tests 25 (.iconst 1) 1 26 := ⟨DX7_tests_c1.2.1, rfl⟩
theorem dX7_tests_26 : Db cX7_tests 26 .goto 29 30 := ⟨4, DX7_tests_c1.2.2.1, rfl, rfl⟩
theorem dX7_tests_29 : Dc cX7_tests 29 (.iconst 0) 1 30 := ⟨DX7_tests_c1.2.2.2.1, rfl⟩
theorem dX7_tests_30 : Dc cX7_tests 30 (.iadd) 1 31 := ⟨DX7_tests_c1.2.2.2.2.1, rfl⟩
theorem dX7_tests_31 : Dc cX7_tests 31 (.istore_n 2) 1 32 := ⟨DX7_tests_c1.2.2.2.2.2.1, rfl⟩
theorem dX7_tests_32 : Dc cX7_tests 32 (.iinc 3 1) 3 35 := ⟨DX7_tests_c1.2.2.2.2.2.2.1, rfl⟩
theorem dX7_tests_35 : Db cX7_tests 35 .goto 38 4 := ⟨-31, DX7_tests_c1.2.2.2.2.2.2.2.1, rfl, rfl⟩
theorem dX7_tests_38 : Dc cX7_tests 38 (.iload_n 2) 1 39 := ⟨DX7_tests_c1.2.2.2.2.2.2.2.2.1, rfl⟩
theorem dX7_tests_39 : Dc cX7_tests 39 (.ireturn) 1 40 := ⟨DX7_tests_c1.2.2.2.2.2.2.2.2.2, rfl⟩
theorem DX7_ifPlayed_c0 : decode cX7_ifPlayed 0 = .ok (.aload_n 0, 1) ∧ decode cX7_ifPlayed 1 = .ok (.iload_n 1, 1) ∧ decode cX7_ifPlayed 2 = .ok (.invokevirtual 92, 3) ∧ decode cX7_ifPlayed 5 = .ok (.ifCond .ne 5, 3) ∧ decode cX7_ifPlayed 8 = .ok (.iconst (-1), 1) ∧ decode cX7_ifPlayed 9 = .ok (.ireturn, 1) ∧ decode cX7_ifPlayed 10 = .ok (.iload_n 2, 1) ∧ decode cX7_ifPlayed 11 = .ok (.iconst 1, 1) ∧ decode cX7_ifPlayed 12 = .ok (.bipush 99, 2) ∧ decode cX7_ifPlayed 14 = .ok (.invokestatic 37, 3) ∧ decode cX7_ifPlayed 17 = .ok (.ifCond .eq 12, 3) ∧ decode cX7_ifPlayed 20 = .ok (.iload_n 3, 1) ∧ decode cX7_ifPlayed 21 = .ok (.iconst 0, 1) ∧ decode cX7_ifPlayed 22 = .ok (.iconst 4, 1) ∧ decode cX7_ifPlayed 23 = .ok (.invokestatic 37, 3) ∧ decode cX7_ifPlayed 26 = .ok (.ifCond .ne 6, 3) := by decide +kernel
theorem dX7_ifPlayed_0 : Dc cX7_ifPlayed 0 (.aload_n 0) 1 1 := ⟨DX7_ifPlayed_c0.1, rfl⟩
theorem dX7_ifPlayed_1 : Dc cX7_ifPlayed 1 (.iload_n 1) 1 2 := ⟨DX7_ifPlayed_c0.2.1, rfl⟩
theorem dX7_ifPlayed_2 : Dc cX7_ifPlayed 2 (.invokevirtual 92) 3 5 := ⟨DX7_ifPlayed_c0.2.2.1, rfl⟩
theorem dX7_ifPlayed_5 : Db cX7_ifPlayed 5 (fun o => .ifCond .ne o) 8 10 := ⟨5, DX7_ifPlayed_c0.2.2.2.1, rfl, rfl⟩
theorem dX7_ifPlayed_8 : Dc cX7_ifPlayed 8 (.iconst (-1)) 1 9 := ⟨DX7_ifPlayed_c0.2.2.2.2.1, rfl⟩
theorem dX7_ifPlayed_9 : Dc cX7_ifPlayed 9 (.ireturn) 1 10 := ⟨DX7_ifPlayed_c0.2.2.2.2.2.1, rfl⟩
theorem dX7_ifPlayed_10 : Dc cX7_ifPlayed 10 (.iload_n 2) 1 11 := ⟨DX7_ifPlayed_c0.2.2.2.2.2.2.1, rfl⟩
theorem dX7_ifPlayed_11 : Dc cX7_ifPlayed 11 (.iconst 1) 1 12 := ⟨DX7_ifPlayed_c0.2.2.2.2.2.2.2.1, rfl⟩
theorem dX7_ifPlayed_12 : Dc cX7_ifPlayed 12 (.bipush 99) 2 14 := ⟨DX7_ifPlayed_c0.2.2.2.2.2.2.2.2.1, rfl⟩
theorem dX7_ifPlayed_14 : Dc cX7_ifPlayed 14 (.invokestatic 37) 3 17 := ⟨DX7_ifPlayed_c0.2.2.2.2.2.2.2.2.2.1, rfl⟩
theorem dX7_ifPlayed_17 : Db cX7_ifPlayed 17 (fun o => .ifCond .eq o) 20 29 := ⟨12, DX7_ifPlayed_c0.2.2.2.2.2.2.2.2.2.2.1, rfl, rfl⟩
theorem dX7_ifPlayed_20 : Dc cX7_ifPlayed 20 (.iload_n 3) 1 21 := ⟨DX7_ifPlayed_c0.2.2.2.2.2.2.2.2.2.2.2.1, rfl⟩
theorem dX7_ifPlayed_21 : Dc cX7_ifPlayed 21 (.iconst 0) 1 22 := ⟨DX7_ifPlayed_c0.2.2.2.2.2.2.2.2.2.2.2.2.1, rfl⟩
theorem dX7_ifPlayed_22 : Dc cX7_ifPlayed 22 (.iconst 4) 1 23 := ⟨DX7_ifPlayed_c0.2.2.2.2.2.2.2.2.2.2.2.2.2.1, rfl⟩
theorem dX7_ifPlayed_23 : Dc cX7_ifPlayed 23 (.invokestatic 37) 3 26 := ⟨DX7_ifPlayed_c0.2.2.2.2.2.2.2.2.2.2.2.2.2.2.1, rfl⟩
theorem dX7_ifPlayed_26 : Db cX7_ifPlayed 26 (fun o => .ifCond .ne o) 29 32 := ⟨6, DX7_ifPlayed_c0.2.2.2.2.2.2.2.2.2.2.2.2.2.2.2, rfl, rfl⟩
theorem DX7_ifPlayed_c1 : decode cX7_ifPlayed 29 = .ok (.bipush (-2), 2) ∧ decode cX7_ifPlayed 31 = .ok (.ireturn, 1) ∧ decode cX7_ifPlayed 32 = .ok (.aload_n 0, 1) ∧ decode cX7_ifPlayed 33 = .ok (.getfield 7, 3) ∧ decode cX7_ifPlayed 36 = .ok (.iconst 0, 1) ∧ decode cX7_ifPlayed 37 = .ok (.aload_n 0, 1) ∧ decode cX7_ifPlayed 38 = .ok (.getfield 13, 3) ∧ decode cX7_ifPlayed 41 = .ok (.iconst 0, 1) ∧ decode cX7_ifPlayed 42 = .ok (.invokestatic 45, 3) ∧ decode cX7_ifPlayed 45 = .ok (.aload_n 0, 1) ∧ decode cX7_ifPlayed 46 = .ok (.iload_n 1, 1) ∧ decode cX7_ifPlayed 47 = .ok (.iload_n 2, 1) ∧ decode cX7_ifPlayed 48 = .ok (.invokevirtual 108, 3) ∧ decode cX7_ifPlayed 51 = .ok (.aload_n 0, 1) ∧ decode cX7_ifPlayed 52 = .ok (.getfield 7, 3) ∧ decode cX7_ifPlayed 55 = .ok (.bipush 34, 2) := by decide +kernel
theorem dX7_ifPlayed_29 : Dc cX7_ifPlayed 29 (.bipush (-2)) 2 31 := ⟨DX7_ifPlayed_c1.1, rfl⟩
theorem dX7_ifPlayed_31 : Dc cX7_ifPlayed 31 (.ireturn) 1 32 := ⟨DX7_ifPlayed_c1.2.1, rfl⟩
theorem dX7_ifPlayed_32 : Dc cX7_ifPlayed 32 (.aload_n 0) 1 33 := ⟨DX7_ifPlayed_c1.2.2.1, rfl⟩
theorem dX7_ifPlayed_33 : Dc cX7_ifPlayed 33 (.getfield 7) 3 36 := ⟨DX7_ifPlayed_c1.2.2.2.1, rfl⟩
theorem dX7_ifPlayed_36 : Dc cX7_ifPlayed 36 (.iconst 0) 1 37 := ⟨DX7_ifPlayed_c1.2.2.2.2.1, rfl⟩
theorem dX7_ifPlayed_37 : Dc cX7_ifPlayed 37 (.aload_n 0) 1 38 := ⟨DX7_ifPlayed_c1.2.2.2.2.2.1, rfl⟩
theorem dX7_ifPlayed_38 : Dc cX7_ifPlayed 38 (.getfield 13) 3 41 := ⟨DX7_ifPlayed_c1.2.2.2.2.2.2.1, rfl⟩
theorem dX7_ifPlayed_41 : Dc cX7_ifPlayed 41 (.iconst 0) 1 42 := ⟨DX7_ifPlayed_c1.2.2.2.2.2.2.2.1, rfl⟩
theorem dX7_ifPlayed_42 : Dc cX7_ifPlayed 42 (.invokestatic 45) 3 45 := ⟨DX7_ifPlayed_c1.2.2.2.2.2.2.2.2.1, rfl⟩
theorem dX7_ifPlayed_45 : Dc cX7_ifPlayed 45 (.aload_n 0) 1 46 := ⟨DX7_ifPlayed_c1.2.2.2.2.2.2.2.2.2.1, rfl⟩
theorem dX7_ifPlayed_46 : Dc cX7_ifPlayed 46 (.iload_n 1) 1 47 := ⟨DX7_ifPlayed_c1.2.2.2.2.2.2.2.2.2.2.1, rfl⟩
theorem dX7_ifPlayed_47 : Dc cX7_ifPlayed 47 (.iload_n 2) 1 48 := ⟨DX7_ifPlayed_c1.2.2.2.2.2.2.2.2.2.2.2.1, rfl⟩
theorem dX7_ifPlayed_48 : Dc cX7_ifPlayed 48 (.invokevirtual 108) 3 51 := ⟨DX7_ifPlayed_c1.2.2.2.2.2.2.2.2.2.2.2.2.1, rfl⟩
theorem dX7_ifPlayed_51 : Dc cX7_ifPlayed 51 (.aload_n 0) 1 52 := ⟨DX7_ifPlayed_c1.2.2.2.2.2.2.2.2.2.2.2.2.2.1, rfl⟩
theorem dX7_ifPlayed_52 : Dc cX7_ifPlayed 52 (.getfield 7) 3 55 := ⟨DX7_ifPlayed_c1.2.2.2.2.2.2.2.2.2.2.2.2.2.2.1, rfl⟩
theorem dX7_ifPlayed_55 : Dc cX7_ifPlayed 55 (.bipush 34) 2 57 := ⟨DX7_ifPlayed_c1.2.2.2.2.2.2.2.2.2.2.2.2.2.2.2, rfl⟩
theorem DX7_ifPlayed_c2 : decode cX7_ifPlayed 57 = .ok (.iaload, 1) ∧ decode cX7_ifPlayed 58 = .ok (.aload_n 0, 1) ∧ decode cX7_ifPlayed 59 = .ok (.getfield 13, 3) ∧ decode cX7_ifPlayed 62 = .ok (.bipush 34, 2) ∧ decode cX7_ifPlayed 64 = .ok (.iaload, 1) ∧ decode cX7_ifPlayed 65 = .ok (.isub, 1) ∧ decode cX7_ifPlayed 66 = .ok (.istore 4, 2) ∧ decode cX7_ifPlayed 68 = .ok (.aload_n 0, 1) ∧ decode cX7_ifPlayed 69 = .ok (.iload 4, 2) ∧ decode cX7_ifPlayed 71 = .ok (.invokevirtual 150, 3) ∧ decode cX7_ifPlayed 74 = .ok (.aload_n 0, 1) ∧ decode cX7_ifPlayed 75 = .ok (.getfield 7, 3) ∧ decode cX7_ifPlayed 78 = .ok (.bipush 35, 2) ∧ decode cX7_ifPlayed 80 = .ok (.iaload, 1) ∧ decode cX7_ifPlayed 81 = .ok (.isub, 1) ∧ decode cX7_ifPlayed 82 = .ok (.aload_n 0, 1) := by decide +kernel
theorem dX7_ifPlayed_57 : Dc cX7_ifPlayed 57 (.iaload) 1 58 := ⟨DX7_ifPlayed_c2.1, rfl⟩
theorem dX7_ifPlayed_58 : Dc cX7_ifPlayed 58 (.aload_n 0) 1 59 := ⟨DX7_ifPlayed_c2.2.1, rfl⟩
theorem dX7_ifPlayed_59 : Dc cX7_ifPlayed 59 (.getfield 13) 3 62 := ⟨DX7_ifPlayed_c2.2.2.1, rfl⟩
theorem dX7_ifPlayed_62 : Dc cX7_ifPlayed 62 (.bipush 34) 2 64 := ⟨DX7_ifPlayed_c2.2.2.2.1, rfl⟩
theorem dX7_ifPlayed_64 : Dc cX7_ifPlayed 64 (.iaload) 1 65 := ⟨DX7_ifPlayed_c2.2.2.2.2.1, rfl⟩
theorem dX7_ifPlayed_65 : Dc cX7_ifPlayed 65 (.isub) 1 66 := ⟨DX7_ifPlayed_c2.2.2.2.2.2.1, rfl⟩
theorem dX7_ifPlayed_66 : Dc cX7_ifPlayed 66 (.istore 4) 2 68 := ⟨DX7_ifPlayed_c2.2.2.2.2.2.2.1, rfl⟩
theorem dX7_ifPlayed_68 : Dc cX7_ifPlayed 68 (.aload_n 0) 1 69 := ⟨DX7_ifPlayed_c2.2.2.2.2.2.2.2.1, rfl⟩
theorem dX7_ifPlayed_69 : Dc cX7_ifPlayed 69 (.iload 4) 2 71 := ⟨DX7_ifPlayed_c2.2.2.2.2.2.2.2.2.1, rfl⟩
theorem dX7_ifPlayed_71 : Dc cX7_ifPlayed 71 (.invokevirtual 150) 3 74 := ⟨DX7_ifPlayed_c2.2.2.2.2.2.2.2.2.2.1, rfl⟩
theorem dX7_ifPlayed_74 : Dc cX7_ifPlayed 74 (.aload_n 0) 1 75 := ⟨DX7_ifPlayed_c2.2.2.2.2.2.2.2.2.2.2.1, rfl⟩
theorem dX7_ifPlayed_75 : Dc cX7_ifPlayed 75 (.getfield 7) 3 78 := ⟨DX7_ifPlayed_c2.2.2.2.2.2.2.2.2.2.2.2.1, rfl⟩
theorem dX7_ifPlayed_78 : Dc cX7_ifPlayed 78 (.bipush 35) 2 80 := ⟨DX7_ifPlayed_c2.2.2.2.2.2.2.2.2.2.2.2.2.1, rfl⟩
theorem dX7_ifPlayed_80 : Dc cX7_ifPlayed 80 (.iaload) 1 81 := ⟨DX7_ifPlayed_c2.2.2.2.2.2.2.2.2.2.2.2.2.2.1, rfl⟩
theorem dX7_ifPlayed_81 : Dc cX7_ifPlayed 81 (.isub) 1 82 := ⟨DX7_ifPlayed_c2.2.2.2.2.2.2.2.2.2.2.2.2.2.2.1, rfl⟩
theorem dX7_ifPlayed_82 : Dc cX7_ifPlayed 82 (.aload_n 0) 1 83 := ⟨DX7_ifPlayed_c2.2.2.2.2.2.2.2.2.2.2.2.2.2.2.2, rfl⟩
theorem DX7_ifPlayed_c3 : decode cX7_ifPlayed 83 = .ok (.getfield 13, 3) ∧ decode cX7_ifPlayed 86 = .ok (.bipush 35, 2) ∧ decode cX7_ifPlayed 88 = .ok (.iaload, 1) ∧ decode cX7_ifPlayed 89 = .ok (.iadd, 1) ∧ decode cX7_ifPlayed 90 = .ok (.istore 5, 2) ∧ decode cX7_ifPlayed 92 = .ok (.iload_n 3, 1) ∧ decode cX7_ifPlayed 93 = .ok (.ifCond .ne 8, 3) ∧ decode cX7_ifPlayed 96 = .ok (.iload 4, 2) ∧ decode cX7_ifPlayed 98 = .ok (.goto 47, 3) ∧ decode cX7_ifPlayed 101 = .ok (.iload_n 3, 1) ∧ decode cX7_ifPlayed 102 = .ok (.iconst 1, 1) ∧ decode cX7_ifPlayed 103 = .ok (.if_icmp .ne 13, 3) ∧ decode cX7_ifPlayed 106 = .ok (.aload_n 0, 1) ∧ decode cX7_ifPlayed 107 = .ok (.getfield 7, 3) ∧ decode cX7_ifPlayed 110 = .ok (.bipush 37, 2) ∧ decode cX7_ifPlayed 112 = .ok (.iaload, 1) := by decide +kernel
theorem dX7_ifPlayed_83 : Dc cX7_ifPlayed 83 (.getfield 13) 3 86 := ⟨DX7_ifPlayed_c3.1, rfl⟩
theorem dX7_ifPlayed_86 : Dc cX7_ifPlayed 86 (.bipush 35) 2 88 := ⟨DX7_ifPlayed_c3.2.1, rfl⟩
theorem dX7_ifPlayed_88 : Dc cX7_ifPlayed 88 (.iaload) 1 89 := ⟨DX7_ifPlayed_c3.2.2.1, rfl⟩
theorem dX7_ifPlayed_89 : Dc cX7_ifPlayed 89 (.iadd) 1 90 := ⟨DX7_ifPlayed_c3.2.2.2.1, rfl⟩
theorem dX7_ifPlayed_90 : Dc cX7_ifPlayed 90 (.istore 5) 2 92 := ⟨DX7_ifPlayed_c3.2.2.2.2.1, rfl⟩
theorem dX7_ifPlayed_92 : Dc cX7_ifPlayed 92 (.iload_n 3) 1 93 := ⟨DX7_ifPlayed_c3.2.2.2.2.2.1, rfl⟩
theorem dX7_ifPlayed_93 : Db cX7_ifPlayed 93 (fun o => .ifCond .ne o) 96 101 := ⟨8, DX7_ifPlayed_c3.2.2.2.2.2.2.1, rfl, rfl⟩
theorem dX7_ifPlayed_96 : Dc cX7_ifPlayed 96 (.iload 4) 2 98 := ⟨DX7_ifPlayed_c3.2.2.2.2.2.2.2.1, rfl⟩
theorem dX7_ifPlayed_98 : Db cX7_ifPlayed 98 .goto 101 145 := ⟨47, DX7_ifPlayed_c3.2.2.2.2.2.2.2.2.1, rfl, rfl⟩
theorem dX7_ifPlayed_101 : Dc cX7_ifPlayed 101 (.iload_n 3) 1 102 := ⟨DX7_ifPlayed_c3.2.2.2.2.2.2.2.2.2.1, rfl⟩
theorem dX7_ifPlayed_102 : Dc cX7_ifPlayed 102 (.iconst 1) 1 103 := ⟨DX7_ifPlayed_c3.2.2.2.2.2.2.2.2.2.2.1, rfl⟩
theorem dX7_ifPlayed_103 : Db cX7_ifPlayed 103 (fun o => .if_icmp .ne o) 106 116 := ⟨13, DX7_ifPlayed_c3.2.2.2.2.2.2.2.2.2.2.2.1, rfl, rfl⟩
theorem dX7_ifPlayed_106 : Dc cX7_ifPlayed 106 (.aload_n 0) 1 107 := ⟨DX7_ifPlayed_c3.2.2.2.2.2.2.2.2.2.2.2.2.1, rfl⟩
theorem dX7_ifPlayed_107 : Dc cX7_ifPlayed 107 (.getfield 7) 3 110 := ⟨DX7_ifPlayed_c3.2.2.2.2.2.2.2.2.2.2.2.2.2.1, rfl⟩
theorem dX7_ifPlayed_110 : Dc cX7_ifPlayed 110 (.bipush 37) 2 112 := ⟨DX7_ifPlayed_c3.2.2.2.2.2.2.2.2.2.2.2.2.2.2.1, rfl⟩
theorem dX7_ifPlayed_112 : Dc cX7_ifPlayed 112 (.iaload) 1 113 := ⟨DX7_ifPlayed_c3.2.2.2.2.2.2.2.2.2.2.2.2.2.2.2, rfl⟩
theorem DX7_ifPlayed_c4 : decode cX7_ifPlayed 113 = .ok (.goto 32, 3) ∧ decode cX7_ifPlayed 116 = .ok (.iload_n 3, 1) ∧ decode cX7_ifPlayed 117 = .ok (.iconst 2, 1) ∧ decode cX7_ifPlayed 118 = .ok (.if_icmp .ne 10, 3) ∧ decode cX7_ifPlayed 121 = .ok (.aload_n 0, 1) ∧ decode cX7_ifPlayed 122 = .ok (.invokevirtual 141, 3) ∧ decode cX7_ifPlayed 125 = .ok (.goto 20, 3) ∧ decode cX7_ifPlayed 128 = .ok (.iload_n 3, 1) ∧ decode cX7_ifPlayed 129 = .ok (.iconst 3, 1) ∧ decode cX7_ifPlayed 130 = .ok (.if_icmp .ne 13, 3) ∧ decode cX7_ifPlayed 133 = .ok (.aload_n 0, 1) ∧ decode cX7_ifPlayed 134 = .ok (.getfield 7, 3) ∧ decode cX7_ifPlayed 137 = .ok (.bipush 30, 2) ∧ decode cX7_ifPlayed 139 = .ok (.iaload, 1) ∧ decode cX7_ifPlayed 140 = .ok (.goto 5, 3) ∧ decode cX7_ifPlayed 143 = .ok (.iload 5, 2) := by decide +kernel
theorem dX7_ifPlayed_113 : Db cX7_ifPlayed 113 .goto 116 145 := ⟨32, DX7_ifPlayed_c4.1, rfl, rfl⟩
theorem dX7_ifPlayed_116 : Dc cX7_ifPlayed 116 (.iload_n 3) 1 117 := ⟨DX7_ifPlayed_c4.2.1, rfl⟩
theorem dX7_ifPlayed_117 : Dc cX7_ifPlayed 117 (.iconst 2) 1 118 := ⟨DX7_ifPlayed_c4.2.2.1, rfl⟩
theorem dX7_ifPlayed_118 : Db cX7_ifPlayed 118 (fun o => .if_icmp .ne o) 121 128 := ⟨10, DX7_ifPlayed_c4.2.2.2.1, rfl, rfl⟩
theorem dX7_ifPlayed_121 : Dc cX7_ifPlayed 121 (.aload_n 0) 1 122 := ⟨DX7_ifPlayed_c4.2.2.2.2.1, rfl⟩
theorem dX7_ifPlayed_122 : Dc cX7_ifPlayed 122 (.invokevirtual 141) 3 125 := ⟨DX7_ifPlayed_c4.2.2.2.2.2.1, rfl⟩
theorem dX7_ifPlayed_125 : Db cX7_ifPlayed 125 .goto 128 145 := ⟨20, DX7_ifPlayed_c4.2.2.2.2.2.2.1, rfl, rfl⟩
theorem dX7_ifPlayed_128 : Dc cX7_ifPlayed 128 (.iload_n 3) 1 129 := ⟨DX7_ifPlayed_c4.2.2.2.2.2.2.2.1, rfl⟩
theorem dX7_ifPlayed_129 : Dc cX7_ifPlayed 129 (.iconst 3) 1 130 := ⟨DX7_ifPlayed_c4.2.2.2.2.2.2.2.2.1, rfl⟩
theorem dX7_ifPlayed_130 : Db cX7_ifPlayed 130 (fun o => .if_icmp .ne o) 133 143 := ⟨13, DX7_ifPlayed_c4.2.2.2.2.2.2.2.2.2.1, rfl, rfl⟩
theorem dX7_ifPlayed_133 : Dc cX7_ifPlayed 133 (.aload_n 0) 1 134 := ⟨DX7_ifPlayed_c4.2.2.2.2.2.2.2.2.2.2.1, rfl⟩
theorem dX7_ifPlayed_134 : Dc cX7_ifPlayed 134 (.getfield 7) 3 137 := ⟨DX7_ifPlayed_c4.2.2.2.2.2.2.2.2.2.2.2.1, rfl⟩
theorem dX7_ifPlayed_137 : Dc cX7_ifPlayed 137 (.bipush 30) 2 139 := ⟨DX7_ifPlayed_c4.2.2.2.2.2.2.2.2.2.2.2.2.1, rfl⟩
theorem dX7_ifPlayed_139 : Dc cX7_ifPlayed 139 (.iaload) 1 140 := ⟨DX7_ifPlayed_c4.2.2.2.2.2.2.2.2.2.2.2.2.2.1, rfl⟩
theorem dX7_ifPlayed_140 : Db cX7_ifPlayed 140 .goto 143 145 := ⟨5, DX7_ifPlayed_c4.2.2.2.2.2.2.2.2.2.2.2.2.2.2.1, rfl, rfl⟩
theorem dX7_ifPlayed_143 : Dc cX7_ifPlayed 143 (.iload 5) 2 145 := ⟨DX7_ifPlayed_c4.2.2.2.2.2.2.2.2.2.2.2.2.2.2.2, rfl⟩
theorem DX7_ifPlayed_c5 : decode cX7_ifPlayed 145 = .ok (.istore 6, 2) ∧ decode cX7_ifPlayed 147 = .ok (.aload_n 0, 1) ∧ decode cX7_ifPlayed 148 = .ok (.getfield 13, 3) ∧ decode cX7_ifPlayed 151 = .ok (.iconst 0, 1) ∧ decode cX7_ifPlayed 152 = .ok (.aload_n 0, 1) ∧ decode cX7_ifPlayed 153 = .ok (.getfield 7, 3) ∧ decode cX7_ifPlayed 156 = .ok (.iconst 0, 1) ∧ decode cX7_ifPlayed 157 = .ok (.invokestatic 45, 3) ∧ decode cX7_ifPlayed 160 = .ok (.iload 6, 2) ∧ decode cX7_ifPlayed 162 = .ok (.ireturn, 1) := by decide +kernel
theorem dX7_ifPlayed_145 : Dc cX7_ifPlayed 145 (.istore 6) 2 147 := ⟨DX7_ifPlayed_c5.1, rfl⟩
theorem dX7_ifPlayed_147 : Dc cX7_ifPlayed 147 (.aload_n 0) 1 148 := ⟨DX7_ifPlayed_c5.2.1, rfl⟩
theorem dX7_ifPlayed_148 : Dc cX7_ifPlayed 148 (.getfield 13) 3 151 := ⟨DX7_ifPlayed_c5.2.2.1, rfl⟩
theorem dX7_ifPlayed_151 : Dc cX7_ifPlayed 151 (.iconst 0) 1 152 := ⟨DX7_ifPlayed_c5.2.2.2.1, rfl⟩
theorem dX7_ifPlayed_152 : Dc cX7_ifPlayed 152 (.aload_n 0) 1 153 := ⟨DX7_ifPlayed_c5.2.2.2.2.1, rfl⟩
theorem dX7_ifPlayed_153 : Dc cX7_ifPlayed 153 (.getfield 7) 3 156 := ⟨DX7_ifPlayed_c5.2.2.2.2.2.1, rfl⟩
theorem dX7_ifPlayed_156 : Dc cX7_ifPlayed 156 (.iconst 0) 1 157 := ⟨DX7_ifPlayed_c5.2.2.2.2.2.2.1, rfl⟩
theorem dX7_ifPlayed_157 : Dc cX7_ifPlayed 157 (.invokestatic 45) 3 160 := ⟨DX7_ifPlayed_c5.2.2.2.2.2.2.2.1, rfl⟩
theorem dX7_ifPlayed_160 : Dc cX7_ifPlayed 160 (.iload 6) 2 162 := ⟨DX7_ifPlayed_c5.2.2.2.2.2.2.2.2.1, rfl⟩
theorem dX7_ifPlayed_162 : Dc cX7_ifPlayed 162 (.ireturn) 1 163 := ⟨DX7_ifPlayed_c5.2.2.2.2.2.2.2.2.2, rfl⟩
theorem DX7_fewestTurns_c0 : decode cX7_fewestTurns 0 = .ok (.aload_n 0, 1) ∧ decode cX7_fewestTurns 1 = .ok (.iload_n 1, 1) ∧ decode cX7_fewestTurns 2 = .ok (.invokevirtual 92, 3) ∧ decode cX7_fewestTurns 5 = .ok (.ifCond .eq 13, 3) ∧ decode cX7_fewestTurns 8 = .ok (.iload_n 2, 1) ∧ decode cX7_fewestTurns 9 = .ok (.iconst 0, 1) ∧ decode cX7_fewestTurns 10 = .ok (.bipush 29, 2) ∧ decode cX7_fewestTurns 12 = .ok (.invokestatic 37, 3) ∧ decode cX7_fewestTurns 15 = .ok (.ifCond .ne 5, 3) ∧ decode cX7_fewestTurns 18 = .ok (.iconst (-1), 1) ∧ decode cX7_fewestTurns 19 = .ok (.ireturn, 1) ∧ decode cX7_fewestTurns 20 = .ok (.iload_n 3, 1) ∧ decode cX7_fewestTurns 21 = .ok (.iconst 0, 1) ∧ decode cX7_fewestTurns 22 = .ok (.bipush 99, 2) ∧ decode cX7_fewestTurns 24 = .ok (.invokestatic 37, 3) ∧ decode cX7_fewestTurns 27 = .ok (.ifCond .ne 6, 3) := by decide +kernel
theorem dX7_fewestTurns_0 : Dc cX7_fewestTurns 0 (.aload_n 0) 1 1 := ⟨DX7_fewestTurns_c0.1, rfl⟩
theorem dX7_fewestTurns_1 : Dc cX7_fewestTurns 1 (.iload_n 1) 1 2 := ⟨DX7_fewestTurns_c0.2.1, rfl⟩
theorem dX7_fewestTurns_2 : Dc cX7_fewestTurns 2 (.invokevirtual 92) 3 5 := ⟨DX7_fewestTurns_c0.2.2.1, rfl⟩
theorem dX7_fewestTurns_5 : Db cX7_fewestTurns 5 (fun o => .ifCond .eq o) 8 18 := ⟨13, DX7_fewestTurns_c0.2.2.2.1, rfl, rfl⟩
theorem dX7_fewestTurns_8 : Dc cX7_fewestTurns 8 (.iload_n 2) 1 9 := ⟨DX7_fewestTurns_c0.2.2.2.2.1, rfl⟩
theorem dX7_fewestTurns_9 : Dc cX7_fewestTurns 9 (.iconst 0) 1 10 := ⟨DX7_fewestTurns_c0.2.2.2.2.2.1, rfl⟩
theorem dX7_fewestTurns_10 : Dc cX7_fewestTurns 10 (.bipush 29) 2 12 := ⟨DX7_fewestTurns_c0.2.2.2.2.2.2.1, rfl⟩
theorem dX7_fewestTurns_12 : Dc cX7_fewestTurns 12 (.invokestatic 37) 3 15 := ⟨DX7_fewestTurns_c0.2.2.2.2.2.2.2.1, rfl⟩
theorem dX7_fewestTurns_15 : Db cX7_fewestTurns 15 (fun o => .ifCond .ne o) 18 20 := ⟨5, DX7_fewestTurns_c0.2.2.2.2.2.2.2.2.1, rfl, rfl⟩
theorem dX7_fewestTurns_18 : Dc cX7_fewestTurns 18 (.iconst (-1)) 1 19 := ⟨DX7_fewestTurns_c0.2.2.2.2.2.2.2.2.2.1, rfl⟩
theorem dX7_fewestTurns_19 : Dc cX7_fewestTurns 19 (.ireturn) 1 20 := ⟨DX7_fewestTurns_c0.2.2.2.2.2.2.2.2.2.2.1, rfl⟩
theorem dX7_fewestTurns_20 : Dc cX7_fewestTurns 20 (.iload_n 3) 1 21 := ⟨DX7_fewestTurns_c0.2.2.2.2.2.2.2.2.2.2.2.1, rfl⟩
theorem dX7_fewestTurns_21 : Dc cX7_fewestTurns 21 (.iconst 0) 1 22 := ⟨DX7_fewestTurns_c0.2.2.2.2.2.2.2.2.2.2.2.2.1, rfl⟩
theorem dX7_fewestTurns_22 : Dc cX7_fewestTurns 22 (.bipush 99) 2 24 := ⟨DX7_fewestTurns_c0.2.2.2.2.2.2.2.2.2.2.2.2.2.1, rfl⟩
theorem dX7_fewestTurns_24 : Dc cX7_fewestTurns 24 (.invokestatic 37) 3 27 := ⟨DX7_fewestTurns_c0.2.2.2.2.2.2.2.2.2.2.2.2.2.2.1, rfl⟩
theorem dX7_fewestTurns_27 : Db cX7_fewestTurns 27 (fun o => .ifCond .ne o) 30 33 := ⟨6, DX7_fewestTurns_c0.2.2.2.2.2.2.2.2.2.2.2.2.2.2.2, rfl, rfl⟩
theorem DX7_fewestTurns_c1 : decode cX7_fewestTurns 30 = .ok (.bipush (-2), 2) ∧ decode cX7_fewestTurns 32 = .ok (.ireturn, 1) ∧ decode cX7_fewestTurns 33 = .ok (.aload_n 0, 1) ∧ decode cX7_fewestTurns 34 = .ok (.getfield 7, 3) ∧ decode cX7_fewestTurns 37 = .ok (.iconst 0, 1) ∧ decode cX7_fewestTurns 38 = .ok (.aload_n 0, 1) ∧ decode cX7_fewestTurns 39 = .ok (.getfield 13, 3) ∧ decode cX7_fewestTurns 42 = .ok (.iconst 0, 1) ∧ decode cX7_fewestTurns 43 = .ok (.invokestatic 45, 3) ∧ decode cX7_fewestTurns 46 = .ok (.aload_n 0, 1) ∧ decode cX7_fewestTurns 47 = .ok (.iload_n 1, 1) ∧ decode cX7_fewestTurns 48 = .ok (.invokevirtual 101, 3) ∧ decode cX7_fewestTurns 51 = .ok (.bipush (-5), 2) ∧ decode cX7_fewestTurns 53 = .ok (.istore 4, 2) ∧ decode cX7_fewestTurns 55 = .ok (.iconst 0, 1) ∧ decode cX7_fewestTurns 56 = .ok (.istore 5, 2) := by decide +kernel
theorem dX7_fewestTurns_30 : Dc cX7_fewestTurns 30 (.bipush (-2)) 2 32 := ⟨DX7_fewestTurns_c1.1, rfl⟩
theorem dX7_fewestTurns_32 : Dc cX7_fewestTurns 32 (.ireturn) 1 33 := ⟨DX7_fewestTurns_c1.2.1, rfl⟩
theorem dX7_fewestTurns_33 : Dc cX7_fewestTurns 33 (.aload_n 0) 1 34 := ⟨DX7_fewestTurns_c1.2.2.1, rfl⟩
theorem dX7_fewestTurns_34 : Dc cX7_fewestTurns 34 (.getfield 7) 3 37 := ⟨DX7_fewestTurns_c1.2.2.2.1, rfl⟩
theorem dX7_fewestTurns_37 : Dc cX7_fewestTurns 37 (.iconst 0) 1 38 := ⟨DX7_fewestTurns_c1.2.2.2.2.1, rfl⟩
theorem dX7_fewestTurns_38 : Dc cX7_fewestTurns 38 (.aload_n 0) 1 39 := ⟨DX7_fewestTurns_c1.2.2.2.2.2.1, rfl⟩
theorem dX7_fewestTurns_39 : Dc cX7_fewestTurns 39 (.getfield 13) 3 42 := ⟨DX7_fewestTurns_c1.2.2.2.2.2.2.1, rfl⟩
theorem dX7_fewestTurns_42 : Dc cX7_fewestTurns 42 (.iconst 0) 1 43 := ⟨DX7_fewestTurns_c1.2.2.2.2.2.2.2.1, rfl⟩
theorem dX7_fewestTurns_43 : Dc cX7_fewestTurns 43 (.invokestatic 45) 3 46 := ⟨DX7_fewestTurns_c1.2.2.2.2.2.2.2.2.1, rfl⟩
theorem dX7_fewestTurns_46 : Dc cX7_fewestTurns 46 (.aload_n 0) 1 47 := ⟨DX7_fewestTurns_c1.2.2.2.2.2.2.2.2.2.1, rfl⟩
theorem dX7_fewestTurns_47 : Dc cX7_fewestTurns 47 (.iload_n 1) 1 48 := ⟨DX7_fewestTurns_c1.2.2.2.2.2.2.2.2.2.2.1, rfl⟩
theorem dX7_fewestTurns_48 : Dc cX7_fewestTurns 48 (.invokevirtual 101) 3 51 := ⟨DX7_fewestTurns_c1.2.2.2.2.2.2.2.2.2.2.2.1, rfl⟩
theorem dX7_fewestTurns_51 : Dc cX7_fewestTurns 51 (.bipush (-5)) 2 53 := ⟨DX7_fewestTurns_c1.2.2.2.2.2.2.2.2.2.2.2.2.1, rfl⟩
theorem dX7_fewestTurns_53 : Dc cX7_fewestTurns 53 (.istore 4) 2 55 := ⟨DX7_fewestTurns_c1.2.2.2.2.2.2.2.2.2.2.2.2.2.1, rfl⟩
theorem dX7_fewestTurns_55 : Dc cX7_fewestTurns 55 (.iconst 0) 1 56 := ⟨DX7_fewestTurns_c1.2.2.2.2.2.2.2.2.2.2.2.2.2.2.1, rfl⟩
theorem dX7_fewestTurns_56 : Dc cX7_fewestTurns 56 (.istore 5) 2 58 := ⟨DX7_fewestTurns_c1.2.2.2.2.2.2.2.2.2.2.2.2.2.2.2, rfl⟩
theorem DX7_fewestTurns_c2 : decode cX7_fewestTurns 58 = .ok (.iconst 0, 1) ∧ decode cX7_fewestTurns 59 = .ok (.istore 6, 2) ∧ decode cX7_fewestTurns 61 = .ok (.iload 6, 2) ∧ decode cX7_fewestTurns 63 = .ok (.bipush 99, 2) ∧ decode cX7_fewestTurns 65 = .ok (.if_icmp .ge 50, 3) ∧ decode cX7_fewestTurns 68 = .ok (.iload 5, 2) ∧ decode cX7_fewestTurns 70 = .ok (.ifCond .ne 45, 3) ∧ decode cX7_fewestTurns 73 = .ok (.iload 4, 2) ∧ decode cX7_fewestTurns 75 = .ok (.bipush (-5), 2) ∧ decode cX7_fewestTurns 77 = .ok (.if_icmp .ne 38, 3) ∧ decode cX7_fewestTurns 80 = .ok (.aload_n 0, 1) ∧ decode cX7_fewestTurns 81 = .ok (.iload 6, 2) ∧ decode cX7_fewestTurns 83 = .ok (.invokevirtual 98, 3) ∧ decode cX7_fewestTurns 86 = .ok (.istore 5, 2) ∧ decode cX7_fewestTurns 88 = .ok (.aload_n 0, 1) ∧ decode cX7_fewestTurns 89 = .ok (.getfield 7, 3) := by decide +kernel
theorem dX7_fewestTurns_58 : Dc cX7_fewestTurns 58 (.iconst 0) 1 59 := ⟨DX7_fewestTurns_c2.1, rfl⟩
theorem dX7_fewestTurns_59 : Dc cX7_fewestTurns 59 (.istore 6) 2 61 := ⟨DX7_fewestTurns_c2.2.1, rfl⟩
theorem dX7_fewestTurns_61 : Dc cX7_fewestTurns 61 (.iload 6) 2 63 := ⟨DX7_fewestTurns_c2.2.2.1, rfl⟩
theorem dX7_fewestTurns_63 : Dc cX7_fewestTurns 63 (.bipush 99) 2 65 := ⟨DX7_fewestTurns_c2.2.2.2.1, rfl⟩
theorem dX7_fewestTurns_65 : Db cX7_fewestTurns 65 (fun o => .if_icmp .ge o) 68 115 := ⟨50, DX7_fewestTurns_c2.2.2.2.2.1, rfl, rfl⟩
theorem dX7_fewestTurns_68 : Dc cX7_fewestTurns 68 (.iload 5) 2 70 := ⟨DX7_fewestTurns_c2.2.2.2.2.2.1, rfl⟩
theorem dX7_fewestTurns_70 : Db cX7_fewestTurns 70 (fun o => .ifCond .ne o) 73 115 := ⟨45, DX7_fewestTurns_c2.2.2.2.2.2.2.1, rfl, rfl⟩
theorem dX7_fewestTurns_73 : Dc cX7_fewestTurns 73 (.iload 4) 2 75 := ⟨DX7_fewestTurns_c2.2.2.2.2.2.2.2.1, rfl⟩
theorem dX7_fewestTurns_75 : Dc cX7_fewestTurns 75 (.bipush (-5)) 2 77 := ⟨DX7_fewestTurns_c2.2.2.2.2.2.2.2.2.1, rfl⟩
theorem dX7_fewestTurns_77 : Db cX7_fewestTurns 77 (fun o => .if_icmp .ne o) 80 115 := ⟨38, DX7_fewestTurns_c2.2.2.2.2.2.2.2.2.2.1, rfl, rfl⟩
theorem dX7_fewestTurns_80 : Dc cX7_fewestTurns 80 (.aload_n 0) 1 81 := ⟨DX7_fewestTurns_c2.2.2.2.2.2.2.2.2.2.2.1, rfl⟩
theorem dX7_fewestTurns_81 : Dc cX7_fewestTurns 81 (.iload 6) 2 83 := ⟨DX7_fewestTurns_c2.2.2.2.2.2.2.2.2.2.2.2.1, rfl⟩
theorem dX7_fewestTurns_83 : Dc cX7_fewestTurns 83 (.invokevirtual 98) 3 86 := ⟨DX7_fewestTurns_c2.2.2.2.2.2.2.2.2.2.2.2.2.1, rfl⟩
theorem dX7_fewestTurns_86 : Dc cX7_fewestTurns 86 (.istore 5) 2 88 := ⟨DX7_fewestTurns_c2.2.2.2.2.2.2.2.2.2.2.2.2.2.1, rfl⟩
theorem dX7_fewestTurns_88 : Dc cX7_fewestTurns 88 (.aload_n 0) 1 89 := ⟨DX7_fewestTurns_c2.2.2.2.2.2.2.2.2.2.2.2.2.2.2.1, rfl⟩
theorem dX7_fewestTurns_89 : Dc cX7_fewestTurns 89 (.getfield 7) 3 92 := ⟨DX7_fewestTurns_c2.2.2.2.2.2.2.2.2.2.2.2.2.2.2.2, rfl⟩
theorem DX7_fewestTurns_c3 : decode cX7_fewestTurns 92 = .ok (.iload_n 2, 1) ∧ decode cX7_fewestTurns 93 = .ok (.iaload, 1) ∧ decode cX7_fewestTurns 94 = .ok (.iload_n 3, 1) ∧ decode cX7_fewestTurns 95 = .ok (.if_icmp .ne 10, 3) ∧ decode cX7_fewestTurns 98 = .ok (.iload 6, 2) ∧ decode cX7_fewestTurns 100 = .ok (.iconst 1, 1) ∧ decode cX7_fewestTurns 101 = .ok (.iadd, 1) ∧ decode cX7_fewestTurns 102 = .ok (.goto 5, 3) ∧ decode cX7_fewestTurns 105 = .ok (.bipush (-5), 2) ∧ decode cX7_fewestTurns 107 = .ok (.istore 4, 2) ∧ decode cX7_fewestTurns 109 = .ok (.iinc 6 1, 3) ∧ decode cX7_fewestTurns 112 = .ok (.goto (-51), 3) ∧ decode cX7_fewestTurns 115 = .ok (.aload_n 0, 1) ∧ decode cX7_fewestTurns 116 = .ok (.getfield 13, 3) ∧ decode cX7_fewestTurns 119 = .ok (.iconst 0, 1) ∧ decode cX7_fewestTurns 120 = .ok (.aload_n 0, 1) := by decide +kernel
theorem dX7_fewestTurns_92 : Dc cX7_fewestTurns 92 (.iload_n 2) 1 93 := ⟨DX7_fewestTurns_c3.1, rfl⟩
theorem dX7_fewestTurns_93 : Dc cX7_fewestTurns 93 (.iaload) 1 94 := ⟨DX7_fewestTurns_c3.2.1, rfl⟩
theorem dX7_fewestTurns_94 : Dc cX7_fewestTurns 94 (.iload_n 3) 1 95 := ⟨DX7_fewestTurns_c3.2.2.1, rfl⟩
theorem dX7_fewestTurns_95 : Db cX7_fewestTurns 95 (fun o => .if_icmp .ne o) 98 105 := ⟨10, DX7_fewestTurns_c3.2.2.2.1, rfl, rfl⟩
theorem dX7_fewestTurns_98 : Dc cX7_fewestTurns 98 (.iload 6) 2 100 := ⟨DX7_fewestTurns_c3.2.2.2.2.1, rfl⟩
theorem dX7_fewestTurns_100 : Dc cX7_fewestTurns 100 (.iconst 1) 1 101 := ⟨DX7_fewestTurns_c3.2.2.2.2.2.1, rfl⟩
theorem dX7_fewestTurns_101 : Dc cX7_fewestTurns 101 (.iadd) 1 102 := ⟨DX7_fewestTurns_c3.2.2.2.2.2.2.1, rfl⟩
theorem dX7_fewestTurns_102 : Db cX7_fewestTurns 102 .goto 105 107 := ⟨5, DX7_fewestTurns_c3.2.2.2.2.2.2.2.1, rfl, rfl⟩
theorem dX7_fewestTurns_105 : Dc cX7_fewestTurns 105 (.bipush (-5)) 2 107 := ⟨DX7_fewestTurns_c3.2.2.2.2.2.2.2.2.1, rfl⟩
theorem dX7_fewestTurns_107 : Dc cX7_fewestTurns 107 (.istore 4) 2 109 := ⟨DX7_fewestTurns_c3.2.2.2.2.2.2.2.2.2.1, rfl⟩
theorem dX7_fewestTurns_109 : Dc cX7_fewestTurns 109 (.iinc 6 1) 3 112 := ⟨DX7_fewestTurns_c3.2.2.2.2.2.2.2.2.2.2.1, rfl⟩
theorem dX7_fewestTurns_112 : Db cX7_fewestTurns 112 .goto 115 61 := ⟨-51, DX7_fewestTurns_c3.2.2.2.2.2.2.2.2.2.2.2.1, rfl, rfl⟩
theorem dX7_fewestTurns_115 : Dc cX7_fewestTurns 115 (.aload_n 0) 1 116 := ⟨DX7_fewestTurns_c3.2.2.2.2.2.2.2.2.2.2.2.2.1, rfl⟩
theorem dX7_fewestTurns_116 : Dc cX7_fewestTurns 116 (.getfield 13) 3 119 := ⟨DX7_fewestTurns_c3.2.2.2.2.2.2.2.2.2.2.2.2.2.1, rfl⟩
theorem dX7_fewestTurns_119 : Dc cX7_fewestTurns 119 (.iconst 0) 1 120 := ⟨DX7_fewestTurns_c3.2.2.2.2.2.2.2.2.2.2.2.2.2.2.1, rfl⟩
theorem dX7_fewestTurns_120 : Dc cX7_fewestTurns 120 (.aload_n 0) 1 121 := ⟨DX7_fewestTurns_c3.2.2.2.2.2.2.2.2.2.2.2.2.2.2.2, rfl⟩
theorem DX7_fewestTurns_c4 : decode cX7_fewestTurns 121 = .ok (.getfield 7, 3) ∧ decode cX7_fewestTurns 124 = .ok (.iconst 0, 1) ∧ decode cX7_fewestTurns 125 = .ok (.invokestatic 45, 3) ∧ decode cX7_fewestTurns 128 = .ok (.iload 4, 2) ∧ decode cX7_fewestTurns 130 = .ok (.ireturn, 1) := by decide +kernel
theorem dX7_fewestTurns_121 : Dc cX7_fewestTurns 121 (.getfield 7) 3 124 := ⟨DX7_fewestTurns_c4.1, rfl⟩
theorem dX7_fewestTurns_124 : Dc cX7_fewestTurns 124 (.iconst 0) 1 125 := ⟨DX7_fewestTurns_c4.2.1, rfl⟩
theorem dX7_fewestTurns_125 : Dc cX7_fewestTurns 125 (.invokestatic 45) 3 128 := ⟨DX7_fewestTurns_c4.2.2.1, rfl⟩
theorem dX7_fewestTurns_128 : Dc cX7_fewestTurns 128 (.iload 4) 2 130 := ⟨DX7_fewestTurns_c4.2.2.2.1, rfl⟩
theorem dX7_fewestTurns_130 : Dc cX7_fewestTurns 130 (.ireturn) 1 131 := ⟨DX7_fewestTurns_c4.2.2.2.2, rfl⟩
