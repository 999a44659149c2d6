theorem DJ11_isValidCodePoint_9a6ad_c0 : decode cJ11_isValidCodePoint_9a6ad 0 = .ok (.iload_n 0, 1) ∧ decode cJ11_isValidCodePoint_9a6ad 1 = .ok (.bipush 16, 2) ∧ decode cJ11_isValidCodePoint_9a6ad 3 = .ok (.iushr, 1) ∧ decode cJ11_isValidCodePoint_9a6ad 4 = .ok (.istore_n 1, 1) ∧ decode cJ11_isValidCodePoint_9a6ad 5 = .ok (.iload_n 1, 1) ∧ decode cJ11_isValidCodePoint_9a6ad 6 = .ok (.bipush 17, 2) ∧ decode cJ11_isValidCodePoint_9a6ad 8 = .ok (.if_icmp .ge 7, 3) ∧ decode cJ11_isValidCodePoint_9a6ad 11 = .ok (.iconst 1, 1) ∧ decode cJ11_isValidCodePoint_9a6ad 12 = .ok (.goto 4, 3) ∧ decode cJ11_isValidCodePoint_9a6ad 15 = .ok (.iconst 0, 1) ∧ decode cJ11_isValidCodePoint_9a6ad 16 = .ok (.ireturn, 1) := by decide +kernel
theorem dJ11_isValidCodePoint_9a6ad_0 : Dc cJ11_isValidCodePoint_9a6ad 0 (.iload_n 0) 1 1 := ⟨DJ11_isValidCodePoint_9a6ad_c0.1, rfl⟩
theorem dJ11_isValidCodePoint_9a6ad_1 : Dc cJ11_isValidCodePoint_9a6ad 1 (.bipush 16) 2 3 := ⟨DJ11_isValidCodePoint_9a6ad_c0.2.1, rfl⟩
theorem dJ11_isValidCodePoint_9a6ad_3 : Dc cJ11_isValidCodePoint_9a6ad 3 (.iushr) 1 4 := ⟨DJ11_isValidCodePoint_9a6ad_c0.2.2.1, rfl⟩
theorem dJ11_isValidCodePoint_9a6ad_4 : Dc cJ11_isValidCodePoint_9a6ad 4 (.istore_n 1) 1 5 := ⟨DJ11_isValidCodePoint_9a6ad_c0.2.2.2.1, rfl⟩
theorem dJ11_isValidCodePoint_9a6ad_5 : Dc cJ11_isValidCodePoint_9a6ad 5 (.iload_n 1) 1 6 := ⟨DJ11_isValidCodePoint_9a6ad_c0.2.2.2.2.1, rfl⟩
theorem dJ11_isValidCodePoint_9a6ad_6 : Dc cJ11_isValidCodePoint_9a6ad 6 (.bipush 17) 2 8 := ⟨DJ11_isValidCodePoint_9a6ad_c0.2.2.2.2.2.1, rfl⟩
theorem dJ11_isValidCodePoint_9a6ad_8 : Db cJ11_isValidCodePoint_9a6ad 8 (fun o => .if_icmp .ge o) 11 15 := ⟨7, DJ11_isValidCodePoint_9a6ad_c0.2.2.2.2.2.2.1, rfl, rfl⟩
theorem dJ11_isValidCodePoint_9a6ad_11 : Dc cJ11_isValidCodePoint_9a6ad 11 (.iconst 1) 1 12 := ⟨DJ11_isValidCodePoint_9a6ad_c0.2.2.2.2.2.2.2.1, rfl⟩
theorem dJ11_isValidCodePoint_9a6ad_12 : Db cJ11_isValidCodePoint_9a6ad 12 .goto 15 16 := ⟨4, DJ11_isValidCodePoint_9a6ad_c0.2.2.2.2.2.2.2.2.1, rfl, rfl⟩
theorem dJ11_isValidCodePoint_9a6ad_15 : Dc cJ11_isValidCodePoint_9a6ad 15 (.iconst 0) 1 16 := ⟨DJ11_isValidCodePoint_9a6ad_c0.2.2.2.2.2.2.2.2.2.1, rfl⟩
theorem dJ11_isValidCodePoint_9a6ad_16 : Dc cJ11_isValidCodePoint_9a6ad 16 (.ireturn) 1 17 := ⟨DJ11_isValidCodePoint_9a6ad_c0.2.2.2.2.2.2.2.2.2.2, rfl⟩
theorem DJ11_highSurrogate_5068e_c0 : decode cJ11_highSurrogate_5068e 0 = .ok (.iload_n 0, 1) ∧ decode cJ11_highSurrogate_5068e 1 = .ok (.bipush 10, 2) ∧ decode cJ11_highSurrogate_5068e 3 = .ok (.iushr, 1) ∧ decode cJ11_highSurrogate_5068e 4 = .ok (.ldc 110, 2) ∧ decode cJ11_highSurrogate_5068e 6 = .ok (.iadd, 1) ∧ decode cJ11_highSurrogate_5068e 7 = .ok (.i2c, 1) ∧ decode cJ11_highSurrogate_5068e 8 = .ok (.ireturn, 1) := by decide +kernel
theorem dJ11_highSurrogate_5068e_0 : Dc cJ11_highSurrogate_5068e 0 (.iload_n 0) 1 1 := ⟨DJ11_highSurrogate_5068e_c0.1, rfl⟩
theorem dJ11_highSurrogate_5068e_1 : Dc cJ11_highSurrogate_5068e 1 (.bipush 10) 2 3 := ⟨DJ11_highSurrogate_5068e_c0.2.1, rfl⟩
theorem dJ11_highSurrogate_5068e_3 : Dc cJ11_highSurrogate_5068e 3 (.iushr) 1 4 := ⟨DJ11_highSurrogate_5068e_c0.2.2.1, rfl⟩
theorem dJ11_highSurrogate_5068e_4 : Dc cJ11_highSurrogate_5068e 4 (.ldc 110) 2 6 := ⟨DJ11_highSurrogate_5068e_c0.2.2.2.1, rfl⟩
theorem dJ11_highSurrogate_5068e_6 : Dc cJ11_highSurrogate_5068e 6 (.iadd) 1 7 := ⟨DJ11_highSurrogate_5068e_c0.2.2.2.2.1, rfl⟩
theorem dJ11_highSurrogate_5068e_7 : Dc cJ11_highSurrogate_5068e 7 (.i2c) 1 8 := ⟨DJ11_highSurrogate_5068e_c0.2.2.2.2.2.1, rfl⟩
theorem dJ11_highSurrogate_5068e_8 : Dc cJ11_highSurrogate_5068e 8 (.ireturn) 1 9 := ⟨DJ11_highSurrogate_5068e_c0.2.2.2.2.2.2, rfl⟩
theorem DJ11_lowSurrogate_5068e_c0 : decode cJ11_lowSurrogate_5068e 0 = .ok (.iload_n 0, 1) ∧ decode cJ11_lowSurrogate_5068e 1 = .ok (.sipush 1023, 3) ∧ decode cJ11_lowSurrogate_5068e 4 = .ok (.iand, 1) ∧ decode cJ11_lowSurrogate_5068e 5 = .ok (.ldc 76, 2) ∧ decode cJ11_lowSurrogate_5068e 7 = .ok (.iadd, 1) ∧ decode cJ11_lowSurrogate_5068e 8 = .ok (.i2c, 1) ∧ decode cJ11_lowSurrogate_5068e 9 = .ok (.ireturn, 1) := by decide +kernel
theorem dJ11_lowSurrogate_5068e_0 : Dc cJ11_lowSurrogate_5068e 0 (.iload_n 0) 1 1 := ⟨DJ11_lowSurrogate_5068e_c0.1, rfl⟩
theorem dJ11_lowSurrogate_5068e_1 : Dc cJ11_lowSurrogate_5068e 1 (.sipush 1023) 3 4 := ⟨DJ11_lowSurrogate_5068e_c0.2.1, rfl⟩
theorem dJ11_lowSurrogate_5068e_4 : Dc cJ11_lowSurrogate_5068e 4 (.iand) 1 5 := ⟨DJ11_lowSurrogate_5068e_c0.2.2.1, rfl⟩
theorem dJ11_lowSurrogate_5068e_5 : Dc cJ11_lowSurrogate_5068e 5 (.ldc 76) 2 7 := ⟨DJ11_lowSurrogate_5068e_c0.2.2.2.1, rfl⟩
theorem dJ11_lowSurrogate_5068e_7 : Dc cJ11_lowSurrogate_5068e 7 (.iadd) 1 8 := ⟨DJ11_lowSurrogate_5068e_c0.2.2.2.2.1, rfl⟩
theorem dJ11_lowSurrogate_5068e_8 : Dc cJ11_lowSurrogate_5068e 8 (.i2c) 1 9 := ⟨DJ11_lowSurrogate_5068e_c0.2.2.2.2.2.1, rfl⟩
theorem dJ11_lowSurrogate_5068e_9 : Dc cJ11_lowSurrogate_5068e 9 (.ireturn) 1 10 := ⟨DJ11_lowSurrogate_5068e_c0.2.2.2.2.2.2, rfl⟩
theorem DJ9_max_7cf53_c0 : decode cJ9_max_7cf53 0 = .ok (.iload_n 0, 1) ∧ decode cJ9_max_7cf53 1 = .ok (.iload_n 1, 1) ∧ decode cJ9_max_7cf53 2 = .ok (.if_icmp .lt 7, 3) ∧ decode cJ9_max_7cf53 5 = .ok (.iload_n 0, 1) ∧ decode cJ9_max_7cf53 6 = .ok (.goto 4, 3) ∧ decode cJ9_max_7cf53 9 = .ok (.iload_n 1, 1) ∧ decode cJ9_max_7cf53 10 = .ok (.ireturn, 1) := by decide +kernel
theorem dJ9_max_7cf53_0 : Dc cJ9_max_7cf53 0 (.iload_n 0) 1 1 := ⟨DJ9_max_7cf53_c0.1, rfl⟩
theorem dJ9_max_7cf53_1 : Dc cJ9_max_7cf53 1 (.iload_n 1) 1 2 := ⟨DJ9_max_7cf53_c0.2.1, rfl⟩
theorem dJ9_max_7cf53_2 : Db cJ9_max_7cf53 2 (fun o => .if_icmp .lt o) 5 9 := ⟨7, DJ9_max_7cf53_c0.2.2.1, rfl, rfl⟩
theorem dJ9_max_7cf53_5 : Dc cJ9_max_7cf53 5 (.iload_n 0) 1 6 := ⟨DJ9_max_7cf53_c0.2.2.2.1, rfl⟩
theorem dJ9_max_7cf53_6 : Db cJ9_max_7cf53 6 .goto 9 10 := ⟨4, DJ9_max_7cf53_c0.2.2.2.2.1, rfl, rfl⟩
theorem dJ9_max_7cf53_9 : Dc cJ9_max_7cf53 9 (.iload_n 1) 1 10 := ⟨DJ9_max_7cf53_c0.2.2.2.2.2.1, rfl⟩
theorem dJ9_max_7cf53_10 : Dc cJ9_max_7cf53 10 (.ireturn) 1 11 := ⟨DJ9_max_7cf53_c0.2.2.2.2.2.2, rfl⟩
theorem DJ9_min_7cf53_c0 : decode cJ9_min_7cf53 0 = .ok (.iload_n 0, 1) ∧ decode cJ9_min_7cf53 1 = .ok (.iload_n 1, 1) ∧ decode cJ9_min_7cf53 2 = .ok (.if_icmp .gt 7, 3) ∧ decode cJ9_min_7cf53 5 = .ok (.iload_n 0, 1) ∧ decode cJ9_min_7cf53 6 = .ok (.goto 4, 3) ∧ decode cJ9_min_7cf53 9 = .ok (.iload_n 1, 1) ∧ decode cJ9_min_7cf53 10 = .ok (.ireturn, 1) := by decide +kernel
theorem dJ9_min_7cf53_0 : Dc cJ9_min_7cf53 0 (.iload_n 0) 1 1 := ⟨DJ9_min_7cf53_c0.1, rfl⟩
theorem dJ9_min_7cf53_1 : Dc cJ9_min_7cf53 1 (.iload_n 1) 1 2 := ⟨DJ9_min_7cf53_c0.2.1, rfl⟩
theorem dJ9_min_7cf53_2 : Db cJ9_min_7cf53 2 (fun o => .if_icmp .gt o) 5 9 := ⟨7, DJ9_min_7cf53_c0.2.2.1, rfl, rfl⟩
theorem dJ9_min_7cf53_5 : Dc cJ9_min_7cf53 5 (.iload_n 0) 1 6 := ⟨DJ9_min_7cf53_c0.2.2.2.1, rfl⟩
theorem dJ9_min_7cf53_6 : Db cJ9_min_7cf53 6 .goto 9 10 := ⟨4, DJ9_min_7cf53_c0.2.2.2.2.1, rfl, rfl⟩
theorem dJ9_min_7cf53_9 : Dc cJ9_min_7cf53 9 (.iload_n 1) 1 10 := ⟨DJ9_min_7cf53_c0.2.2.2.2.2.1, rfl⟩
theorem dJ9_min_7cf53_10 : Dc cJ9_min_7cf53 10 (.ireturn) 1 11 := ⟨DJ9_min_7cf53_c0.2.2.2.2.2.2, rfl⟩
theorem DJ0_length_8abf5_c0 : decode cJ0_length_8abf5 0 = .ok (.aload_n 0, 1) ∧ decode cJ0_length_8abf5 1 = .ok (.getfield 9, 3) ∧ decode cJ0_length_8abf5 4 = .ok (.arraylength, 1) ∧ decode cJ0_length_8abf5 5 = .ok (.aload_n 0, 1) ∧ decode cJ0_length_8abf5 6 = .ok (.invokevirtual 335, 3) ∧ decode cJ0_length_8abf5 9 = .ok (.ishr, 1) ∧ decode cJ0_length_8abf5 10 = .ok (.ireturn, 1) := by decide +kernel
theorem dJ0_length_8abf5_0 : Dc cJ0_length_8abf5 0 (.aload_n 0) 1 1 := ⟨DJ0_length_8abf5_c0.1, rfl⟩
theorem dJ0_length_8abf5_1 : Dc cJ0_length_8abf5 1 (.getfield 9) 3 4 := ⟨DJ0_length_8abf5_c0.2.1, rfl⟩
theorem dJ0_length_8abf5_4 : Dc cJ0_length_8abf5 4 (.arraylength) 1 5 := ⟨DJ0_length_8abf5_c0.2.2.1, rfl⟩
theorem dJ0_length_8abf5_5 : Dc cJ0_length_8abf5 5 (.aload_n 0) 1 6 := ⟨DJ0_length_8abf5_c0.2.2.2.1, rfl⟩
theorem dJ0_length_8abf5_6 : Dc cJ0_length_8abf5 6 (.invokevirtual 335) 3 9 := ⟨DJ0_length_8abf5_c0.2.2.2.2.1, rfl⟩
theorem dJ0_length_8abf5_9 : Dc cJ0_length_8abf5 9 (.ishr) 1 10 := ⟨DJ0_length_8abf5_c0.2.2.2.2.2.1, rfl⟩
theorem dJ0_length_8abf5_10 : Dc cJ0_length_8abf5 10 (.ireturn) 1 11 := ⟨DJ0_length_8abf5_c0.2.2.2.2.2.2, rfl⟩
theorem DJ0_indexOf_0f7a4_c0 : decode cJ0_indexOf_0f7a4 0 = .ok (.aload_n 0, 1) ∧ decode cJ0_indexOf_0f7a4 1 = .ok (.iload_n 1, 1) ∧ decode cJ0_indexOf_0f7a4 2 = .ok (.iconst 0, 1) ∧ decode cJ0_indexOf_0f7a4 3 = .ok (.invokevirtual 633, 3) ∧ decode cJ0_indexOf_0f7a4 6 = .ok (.ireturn, 1) := by decide +kernel
theorem dJ0_indexOf_0f7a4_0 : Dc cJ0_indexOf_0f7a4 0 (.aload_n 0) 1 1 := ⟨DJ0_indexOf_0f7a4_c0.1, rfl⟩
theorem dJ0_indexOf_0f7a4_1 : Dc cJ0_indexOf_0f7a4 1 (.iload_n 1) 1 2 := ⟨DJ0_indexOf_0f7a4_c0.2.1, rfl⟩
theorem dJ0_indexOf_0f7a4_2 : Dc cJ0_indexOf_0f7a4 2 (.iconst 0) 1 3 := ⟨DJ0_indexOf_0f7a4_c0.2.2.1, rfl⟩
theorem dJ0_indexOf_0f7a4_3 : Dc cJ0_indexOf_0f7a4 3 (.invokevirtual 633) 3 6 := ⟨DJ0_indexOf_0f7a4_c0.2.2.2.1, rfl⟩
theorem dJ0_indexOf_0f7a4_6 : Dc cJ0_indexOf_0f7a4 6 (.ireturn) 1 7 := ⟨DJ0_indexOf_0f7a4_c0.2.2.2.2, rfl⟩
theorem DJ0_indexOf_7cf53_c0 : decode cJ0_indexOf_7cf53 0 = .ok (.aload_n 0, 1) ∧ decode cJ0_indexOf_7cf53 1 = .ok (.invokevirtual 492, 3) ∧ decode cJ0_indexOf_7cf53 4 = .ok (.ifCond .eq 19, 3) ∧ decode cJ0_indexOf_7cf53 7 = .ok (.aload_n 0, 1) ∧ decode cJ0_indexOf_7cf53 8 = .ok (.getfield 9, 3) ∧ decode cJ0_indexOf_7cf53 11 = .ok (.iload_n 1, 1) ∧ decode cJ0_indexOf_7cf53 12 = .ok (.iload_n 2, 1) ∧ decode cJ0_indexOf_7cf53 13 = .ok (.aload_n 0, 1) ∧ decode cJ0_indexOf_7cf53 14 = .ok (.invokevirtual 505, 3) ∧ decode cJ0_indexOf_7cf53 17 = .ok (.invokestatic 637, 3) ∧ decode cJ0_indexOf_7cf53 20 = .ok (.goto 16, 3) ∧ decode cJ0_indexOf_7cf53 23 = .ok (.aload_n 0, 1) ∧ decode cJ0_indexOf_7cf53 24 = .ok (.getfield 9, 3) ∧ decode cJ0_indexOf_7cf53 27 = .ok (.iload_n 1, 1) ∧ decode cJ0_indexOf_7cf53 28 = .ok (.iload_n 2, 1) ∧ decode cJ0_indexOf_7cf53 29 = .ok (.aload_n 0, 1) := by decide +kernel
theorem dJ0_indexOf_7cf53_0 : Dc cJ0_indexOf_7cf53 0 (.aload_n 0) 1 1 := ⟨DJ0_indexOf_7cf53_c0.1, rfl⟩
theorem dJ0_indexOf_7cf53_1 : Dc cJ0_indexOf_7cf53 1 (.invokevirtual 492) 3 4 := ⟨DJ0_indexOf_7cf53_c0.2.1, rfl⟩
theorem dJ0_indexOf_7cf53_4 : Db cJ0_indexOf_7cf53 4 (fun o => .ifCond .eq o) 7 23 := ⟨19, DJ0_indexOf_7cf53_c0.2.2.1, rfl, rfl⟩
theorem dJ0_indexOf_7cf53_7 : Dc cJ0_indexOf_7cf53 7 (.aload_n 0) 1 8 := ⟨DJ0_indexOf_7cf53_c0.2.2.2.1, rfl⟩
theorem dJ0_indexOf_7cf53_8 : Dc cJ0_indexOf_7cf53 8 (.getfield 9) 3 11 := ⟨DJ0_indexOf_7cf53_c0.2.2.2.2.1, rfl⟩
theorem dJ0_indexOf_7cf53_11 : Dc cJ0_indexOf_7cf53 11 (.iload_n 1) 1 12 := ⟨DJ0_indexOf_7cf53_c0.2.2.2.2.2.1, rfl⟩
theorem dJ0_indexOf_7cf53_12 : Dc cJ0_indexOf_7cf53 12 (.iload_n 2) 1 13 := ⟨DJ0_indexOf_7cf53_c0.2.2.2.2.2.2.1, rfl⟩
theorem dJ0_indexOf_7cf53_13 : Dc cJ0_indexOf_7cf53 13 (.aload_n 0) 1 14 := ⟨DJ0_indexOf_7cf53_c0.2.2.2.2.2.2.2.1, rfl⟩
theorem dJ0_indexOf_7cf53_14 : Dc cJ0_indexOf_7cf53 14 (.invokevirtual 505) 3 17 := ⟨DJ0_indexOf_7cf53_c0.2.2.2.2.2.2.2.2.1, rfl⟩
theorem dJ0_indexOf_7cf53_17 : Dc cJ0_indexOf_7cf53 17 (.invokestatic 637) 3 20 := ⟨DJ0_indexOf_7cf53_c0.2.2.2.2.2.2.2.2.2.1, rfl⟩
theorem dJ0_indexOf_7cf53_20 : Db cJ0_indexOf_7cf53 20 .goto 23 36 := ⟨16, DJ0_indexOf_7cf53_c0.2.2.2.2.2.2.2.2.2.2.1, rfl, rfl⟩
theorem dJ0_indexOf_7cf53_23 : Dc cJ0_indexOf_7cf53 23 (.aload_n 0) 1 24 := ⟨DJ0_indexOf_7cf53_c0.2.2.2.2.2.2.2.2.2.2.2.1, rfl⟩
theorem dJ0_indexOf_7cf53_24 : Dc cJ0_indexOf_7cf53 24 (.getfield 9) 3 27 := ⟨DJ0_indexOf_7cf53_c0.2.2.2.2.2.2.2.2.2.2.2.2.1, rfl⟩
theorem dJ0_indexOf_7cf53_27 : Dc cJ0_indexOf_7cf53 27 (.iload_n 1) 1 28 := ⟨DJ0_indexOf_7cf53_c0.2.2.2.2.2.2.2.2.2.2.2.2.2.1, rfl⟩
theorem dJ0_indexOf_7cf53_28 : Dc cJ0_indexOf_7cf53 28 (.iload_n 2) 1 29 := ⟨DJ0_indexOf_7cf53_c0.2.2.2.2.2.2.2.2.2.2.2.2.2.2.1, rfl⟩
theorem dJ0_indexOf_7cf53_29 : Dc cJ0_indexOf_7cf53 29 (.aload_n 0) 1 30 := ⟨DJ0_indexOf_7cf53_c0.2.2.2.2.2.2.2.2.2.2.2.2.2.2.2, rfl⟩
theorem DJ0_indexOf_7cf53_c1 : decode cJ0_indexOf_7cf53 30 = .ok (.invokevirtual 505, 3) ∧ decode cJ0_indexOf_7cf53 33 = .ok (.invokestatic 640, 3) ∧ decode cJ0_indexOf_7cf53 36 = .ok (.ireturn, 1) := by decide +kernel
theorem dJ0_indexOf_7cf53_30 : Dc cJ0_indexOf_7cf53 30 (.invokevirtual 505) 3 33 := ⟨DJ0_indexOf_7cf53_c1.1, rfl⟩
theorem dJ0_indexOf_7cf53_33 : Dc cJ0_indexOf_7cf53 33 (.invokestatic 640) 3 36 := ⟨DJ0_indexOf_7cf53_c1.2.1, rfl⟩
theorem dJ0_indexOf_7cf53_36 : Dc cJ0_indexOf_7cf53 36 (.ireturn) 1 37 := ⟨DJ0_indexOf_7cf53_c1.2.2, rfl⟩
theorem DJ0_coder_7d493_c0 : decode cJ0_coder_7d493 0 = .ok (.getstatic 38, 3) ∧ decode cJ0_coder_7d493 3 = .ok (.ifCond .eq 10, 3) ∧ decode cJ0_coder_7d493 6 = .ok (.aload_n 0, 1) ∧ decode cJ0_coder_7d493 7 = .ok (.getfield 15, 3) ∧ decode cJ0_coder_7d493 10 = .ok (.goto 4, 3) ∧ decode cJ0_coder_7d493 13 = .ok (.iconst 1, 1) ∧ decode cJ0_coder_7d493 14 = .ok (.ireturn, 1) := by decide +kernel
theorem dJ0_coder_7d493_0 : Dc cJ0_coder_7d493 0 (.getstatic 38) 3 3 := ⟨DJ0_coder_7d493_c0.1, rfl⟩
theorem dJ0_coder_7d493_3 : Db cJ0_coder_7d493 3 (fun o => .ifCond .eq o) 6 13 := ⟨10, DJ0_coder_7d493_c0.2.1, rfl, rfl⟩
theorem dJ0_coder_7d493_6 : Dc cJ0_coder_7d493 6 (.aload_n 0) 1 7 := ⟨DJ0_coder_7d493_c0.2.2.1, rfl⟩
theorem dJ0_coder_7d493_7 : Dc cJ0_coder_7d493 7 (.getfield 15) 3 10 := ⟨DJ0_coder_7d493_c0.2.2.2.1, rfl⟩
theorem dJ0_coder_7d493_10 : Db cJ0_coder_7d493 10 .goto 13 14 := ⟨4, DJ0_coder_7d493_c0.2.2.2.2.1, rfl, rfl⟩
theorem dJ0_coder_7d493_13 : Dc cJ0_coder_7d493 13 (.iconst 1) 1 14 := ⟨DJ0_coder_7d493_c0.2.2.2.2.2.1, rfl⟩
theorem dJ0_coder_7d493_14 : Dc cJ0_coder_7d493 14 (.ireturn) 1 15 := ⟨DJ0_coder_7d493_c0.2.2.2.2.2.2, rfl⟩
theorem DJ0_isLatin1_aae02_c0 : decode cJ0_isLatin1_aae02 0 = .ok (.getstatic 38, 3) ∧ decode cJ0_isLatin1_aae02 3 = .ok (.ifCond .eq 14, 3) ∧ decode cJ0_isLatin1_aae02 6 = .ok (.aload_n 0, 1) ∧ decode cJ0_isLatin1_aae02 7 = .ok (.getfield 15, 3) ∧ decode cJ0_isLatin1_aae02 10 = .ok (.ifCond .ne 7, 3) ∧ decode cJ0_isLatin1_aae02 13 = .ok (.iconst 1, 1) ∧ decode cJ0_isLatin1_aae02 14 = .ok (.goto 4, 3) ∧ decode cJ0_isLatin1_aae02 17 = .ok (.iconst 0, 1) ∧ decode cJ0_isLatin1_aae02 18 = .ok (.ireturn, 1) := by decide +kernel
theorem dJ0_isLatin1_aae02_0 : Dc cJ0_isLatin1_aae02 0 (.getstatic 38) 3 3 := ⟨DJ0_isLatin1_aae02_c0.1, rfl⟩
theorem dJ0_isLatin1_aae02_3 : Db cJ0_isLatin1_aae02 3 (fun o => .ifCond .eq o) 6 17 := ⟨14, DJ0_isLatin1_aae02_c0.2.1, rfl, rfl⟩
theorem dJ0_isLatin1_aae02_6 : Dc cJ0_isLatin1_aae02 6 (.aload_n 0) 1 7 := ⟨DJ0_isLatin1_aae02_c0.2.2.1, rfl⟩
theorem dJ0_isLatin1_aae02_7 : Dc cJ0_isLatin1_aae02 7 (.getfield 15) 3 10 := ⟨DJ0_isLatin1_aae02_c0.2.2.2.1, rfl⟩
theorem dJ0_isLatin1_aae02_10 : Db cJ0_isLatin1_aae02 10 (fun o => .ifCond .ne o) 13 17 := ⟨7, DJ0_isLatin1_aae02_c0.2.2.2.2.1, rfl, rfl⟩
theorem dJ0_isLatin1_aae02_13 : Dc cJ0_isLatin1_aae02 13 (.iconst 1) 1 14 := ⟨DJ0_isLatin1_aae02_c0.2.2.2.2.2.1, rfl⟩
theorem dJ0_isLatin1_aae02_14 : Db cJ0_isLatin1_aae02 14 .goto 17 18 := ⟨4, DJ0_isLatin1_aae02_c0.2.2.2.2.2.2.1, rfl, rfl⟩
theorem dJ0_isLatin1_aae02_17 : Dc cJ0_isLatin1_aae02 17 (.iconst 0) 1 18 := ⟨DJ0_isLatin1_aae02_c0.2.2.2.2.2.2.2.1, rfl⟩
theorem dJ0_isLatin1_aae02_18 : Dc cJ0_isLatin1_aae02 18 (.ireturn) 1 19 := ⟨DJ0_isLatin1_aae02_c0.2.2.2.2.2.2.2.2, rfl⟩
theorem DJ0_checkBoundsBeginEnd_23922_c0 : decode cJ0_checkBoundsBeginEnd_23922 0 = .ok (.iload_n 0, 1) ∧ decode cJ0_checkBoundsBeginEnd_23922 1 = .ok (.iload_n 1, 1) ∧ decode cJ0_checkBoundsBeginEnd_23922 2 = .ok (.iload_n 2, 1) ∧ decode cJ0_checkBoundsBeginEnd_23922 3 = .ok (.getstatic 1053, 3) ∧ decode cJ0_checkBoundsBeginEnd_23922 6 = .ok (.invokestatic 1062, 3) ∧ decode cJ0_checkBoundsBeginEnd_23922 9 = .ok (.pop, 1) ∧ decode cJ0_checkBoundsBeginEnd_23922 10 = .ok (.return_, 1) := by decide +kernel
theorem dJ0_checkBoundsBeginEnd_23922_0 : Dc cJ0_checkBoundsBeginEnd_23922 0 (.iload_n 0) 1 1 := ⟨DJ0_checkBoundsBeginEnd_23922_c0.1, rfl⟩
theorem dJ0_checkBoundsBeginEnd_23922_1 : Dc cJ0_checkBoundsBeginEnd_23922 1 (.iload_n 1) 1 2 := ⟨DJ0_checkBoundsBeginEnd_23922_c0.2.1, rfl⟩
theorem dJ0_checkBoundsBeginEnd_23922_2 : Dc cJ0_checkBoundsBeginEnd_23922 2 (.iload_n 2) 1 3 := ⟨DJ0_checkBoundsBeginEnd_23922_c0.2.2.1, rfl⟩
theorem dJ0_checkBoundsBeginEnd_23922_3 : Dc cJ0_checkBoundsBeginEnd_23922 3 (.getstatic 1053) 3 6 := ⟨DJ0_checkBoundsBeginEnd_23922_c0.2.2.2.1, rfl⟩
theorem dJ0_checkBoundsBeginEnd_23922_6 : Dc cJ0_checkBoundsBeginEnd_23922 6 (.invokestatic 1062) 3 9 := ⟨DJ0_checkBoundsBeginEnd_23922_c0.2.2.2.2.1, rfl⟩
theorem dJ0_checkBoundsBeginEnd_23922_9 : Dc cJ0_checkBoundsBeginEnd_23922 9 (.pop) 1 10 := ⟨DJ0_checkBoundsBeginEnd_23922_c0.2.2.2.2.2.1, rfl⟩
theorem dJ0_checkBoundsBeginEnd_23922_10 : Dc cJ0_checkBoundsBeginEnd_23922 10 (.return_) 1 11 := ⟨DJ0_checkBoundsBeginEnd_23922_c0.2.2.2.2.2.2, rfl⟩
theorem DJ1_canEncode_9a6ad_c0 : decode cJ1_canEncode_9a6ad 0 = .ok (.iload_n 0, 1) ∧ decode cJ1_canEncode_9a6ad 1 = .ok (.ifCond .lt 14, 3) ∧ decode cJ1_canEncode_9a6ad 4 = .ok (.iload_n 0, 1) ∧ decode cJ1_canEncode_9a6ad 5 = .ok (.sipush 255, 3) ∧ decode cJ1_canEncode_9a6ad 8 = .ok (.if_icmp .gt 7, 3) ∧ decode cJ1_canEncode_9a6ad 11 = .ok (.iconst 1, 1) ∧ decode cJ1_canEncode_9a6ad 12 = .ok (.goto 4, 3) ∧ decode cJ1_canEncode_9a6ad 15 = .ok (.iconst 0, 1) ∧ decode cJ1_canEncode_9a6ad 16 = .ok (.ireturn, 1) := by decide +kernel
theorem dJ1_canEncode_9a6ad_0 : Dc cJ1_canEncode_9a6ad 0 (.iload_n 0) 1 1 := ⟨DJ1_canEncode_9a6ad_c0.1, rfl⟩
theorem dJ1_canEncode_9a6ad_1 : Db cJ1_canEncode_9a6ad 1 (fun o => .ifCond .lt o) 4 15 := ⟨14, DJ1_canEncode_9a6ad_c0.2.1, rfl, rfl⟩
theorem dJ1_canEncode_9a6ad_4 : Dc cJ1_canEncode_9a6ad 4 (.iload_n 0) 1 5 := ⟨DJ1_canEncode_9a6ad_c0.2.2.1, rfl⟩
theorem dJ1_canEncode_9a6ad_5 : Dc cJ1_canEncode_9a6ad 5 (.sipush 255) 3 8 := ⟨DJ1_canEncode_9a6ad_c0.2.2.2.1, rfl⟩
theorem dJ1_canEncode_9a6ad_8 : Db cJ1_canEncode_9a6ad 8 (fun o => .if_icmp .gt o) 11 15 := ⟨7, DJ1_canEncode_9a6ad_c0.2.2.2.2.1, rfl, rfl⟩
theorem dJ1_canEncode_9a6ad_11 : Dc cJ1_canEncode_9a6ad 11 (.iconst 1) 1 12 := ⟨DJ1_canEncode_9a6ad_c0.2.2.2.2.2.1, rfl⟩
theorem dJ1_canEncode_9a6ad_12 : Db cJ1_canEncode_9a6ad 12 .goto 15 16 := ⟨4, DJ1_canEncode_9a6ad_c0.2.2.2.2.2.2.1, rfl, rfl⟩
theorem dJ1_canEncode_9a6ad_15 : Dc cJ1_canEncode_9a6ad 15 (.iconst 0) 1 16 := ⟨DJ1_canEncode_9a6ad_c0.2.2.2.2.2.2.2.1, rfl⟩
theorem dJ1_canEncode_9a6ad_16 : Dc cJ1_canEncode_9a6ad 16 (.ireturn) 1 17 := ⟨DJ1_canEncode_9a6ad_c0.2.2.2.2.2.2.2.2, rfl⟩
theorem DJ1_indexOf_4cfef_c0 : decode cJ1_indexOf_4cfef 0 = .ok (.iload_n 1, 1) ∧ decode cJ1_indexOf_4cfef 1 = .ok (.invokestatic 88, 3) ∧ decode cJ1_indexOf_4cfef 4 = .ok (.ifCond .ne 5, 3) ∧ decode cJ1_indexOf_4cfef 7 = .ok (.iconst (-1), 1) ∧ decode cJ1_indexOf_4cfef 8 = .ok (.ireturn, 1) ∧ decode cJ1_indexOf_4cfef 9 = .ok (.iload_n 2, 1) ∧ decode cJ1_indexOf_4cfef 10 = .ok (.iconst 0, 1) ∧ decode cJ1_indexOf_4cfef 11 = .ok (.invokestatic 92, 3) ∧ decode cJ1_indexOf_4cfef 14 = .ok (.istore_n 2, 1) ∧ decode cJ1_indexOf_4cfef 15 = .ok (.iload_n 3, 1) ∧ decode cJ1_indexOf_4cfef 16 = .ok (.aload_n 0, 1) ∧ decode cJ1_indexOf_4cfef 17 = .ok (.arraylength, 1) ∧ decode cJ1_indexOf_4cfef 18 = .ok (.invokestatic 38, 3) ∧ decode cJ1_indexOf_4cfef 21 = .ok (.istore_n 3, 1) ∧ decode cJ1_indexOf_4cfef 22 = .ok (.iload_n 2, 1) ∧ decode cJ1_indexOf_4cfef 23 = .ok (.iload_n 3, 1) := by decide +kernel
theorem dJ1_indexOf_4cfef_0 : Dc cJ1_indexOf_4cfef 0 (.iload_n 1) 1 1 := ⟨DJ1_indexOf_4cfef_c0.1, rfl⟩
theorem dJ1_indexOf_4cfef_1 : Dc cJ1_indexOf_4cfef 1 (.invokestatic 88) 3 4 := ⟨DJ1_indexOf_4cfef_c0.2.1, rfl⟩
theorem dJ1_indexOf_4cfef_4 : Db cJ1_indexOf_4cfef 4 (fun o => .ifCond .ne o) 7 9 := ⟨5, DJ1_indexOf_4cfef_c0.2.2.1, rfl, rfl⟩
theorem dJ1_indexOf_4cfef_7 : Dc cJ1_indexOf_4cfef 7 (.iconst (-1)) 1 8 := ⟨DJ1_indexOf_4cfef_c0.2.2.2.1, rfl⟩
theorem dJ1_indexOf_4cfef_8 : Dc cJ1_indexOf_4cfef 8 (.ireturn) 1 9 := ⟨DJ1_indexOf_4cfef_c0.2.2.2.2.1, rfl⟩
theorem dJ1_indexOf_4cfef_9 : Dc cJ1_indexOf_4cfef 9 (.iload_n 2) 1 10 := ⟨DJ1_indexOf_4cfef_c0.2.2.2.2.2.1, rfl⟩
theorem dJ1_indexOf_4cfef_10 : Dc cJ1_indexOf_4cfef 10 (.iconst 0) 1 11 := ⟨DJ1_indexOf_4cfef_c0.2.2.2.2.2.2.1, rfl⟩
theorem dJ1_indexOf_4cfef_11 : Dc cJ1_indexOf_4cfef 11 (.invokestatic 92) 3 14 := ⟨DJ1_indexOf_4cfef_c0.2.2.2.2.2.2.2.1, rfl⟩
theorem dJ1_indexOf_4cfef_14 : Dc cJ1_indexOf_4cfef 14 (.istore_n 2) 1 15 := ⟨DJ1_indexOf_4cfef_c0.2.2.2.2.2.2.2.2.1, rfl⟩
theorem dJ1_indexOf_4cfef_15 : Dc cJ1_indexOf_4cfef 15 (.iload_n 3) 1 16 := ⟨DJ1_indexOf_4cfef_c0.2.2.2.2.2.2.2.2.2.1, rfl⟩
theorem dJ1_indexOf_4cfef_16 : Dc cJ1_indexOf_4cfef 16 (.aload_n 0) 1 17 := ⟨DJ1_indexOf_4cfef_c0.2.2.2.2.2.2.2.2.2.2.1, rfl⟩
theorem dJ1_indexOf_4cfef_17 : Dc cJ1_indexOf_4cfef 17 (.arraylength) 1 18 := ⟨DJ1_indexOf_4cfef_c0.2.2.2.2.2.2.2.2.2.2.2.1, rfl⟩
theorem dJ1_indexOf_4cfef_18 : Dc cJ1_indexOf_4cfef 18 (.invokestatic 38) 3 21 := ⟨DJ1_indexOf_4cfef_c0.2.2.2.2.2.2.2.2.2.2.2.2.1, rfl⟩
theorem dJ1_indexOf_4cfef_21 : Dc cJ1_indexOf_4cfef 21 (.istore_n 3) 1 22 := ⟨DJ1_indexOf_4cfef_c0.2.2.2.2.2.2.2.2.2.2.2.2.2.1, rfl⟩
theorem dJ1_indexOf_4cfef_22 : Dc cJ1_indexOf_4cfef 22 (.iload_n 2) 1 23 := ⟨DJ1_indexOf_4cfef_c0.2.2.2.2.2.2.2.2.2.2.2.2.2.2.1, rfl⟩
theorem dJ1_indexOf_4cfef_23 : Dc cJ1_indexOf_4cfef 23 (.iload_n 3) 1 24 := ⟨DJ1_indexOf_4cfef_c0.2.2.2.2.2.2.2.2.2.2.2.2.2.2.2, rfl⟩
theorem DJ1_indexOf_4cfef_c1 : decode cJ1_indexOf_4cfef 24 = .ok (.if_icmp .lt 5, 3) ∧ decode cJ1_indexOf_4cfef 27 = .ok (.iconst (-1), 1) ∧ decode cJ1_indexOf_4cfef 28 = .ok (.ireturn, 1) ∧ decode cJ1_indexOf_4cfef 29 = .ok (.aload_n 0, 1) ∧ decode cJ1_indexOf_4cfef 30 = .ok (.iload_n 1, 1) ∧ decode cJ1_indexOf_4cfef 31 = .ok (.iload_n 2, 1) ∧ decode cJ1_indexOf_4cfef 32 = .ok (.iload_n 3, 1) ∧ decode cJ1_indexOf_4cfef 33 = .ok (.invokestatic 95, 3) ∧ decode cJ1_indexOf_4cfef 36 = .ok (.ireturn, 1) := by decide +kernel
theorem dJ1_indexOf_4cfef_24 : Db cJ1_indexOf_4cfef 24 (fun o => .if_icmp .lt o) 27 29 := ⟨5, DJ1_indexOf_4cfef_c1.1, rfl, rfl⟩
theorem dJ1_indexOf_4cfef_27 : Dc cJ1_indexOf_4cfef 27 (.iconst (-1)) 1 28 := ⟨DJ1_indexOf_4cfef_c1.2.1, rfl⟩
theorem dJ1_indexOf_4cfef_28 : Dc cJ1_indexOf_4cfef 28 (.ireturn) 1 29 := ⟨DJ1_indexOf_4cfef_c1.2.2.1, rfl⟩
theorem dJ1_indexOf_4cfef_29 : Dc cJ1_indexOf_4cfef 29 (.aload_n 0) 1 30 := ⟨DJ1_indexOf_4cfef_c1.2.2.2.1, rfl⟩
theorem dJ1_indexOf_4cfef_30 : Dc cJ1_indexOf_4cfef 30 (.iload_n 1) 1 31 := ⟨DJ1_indexOf_4cfef_c1.2.2.2.2.1, rfl⟩
theorem dJ1_indexOf_4cfef_31 : Dc cJ1_indexOf_4cfef 31 (.iload_n 2) 1 32 := ⟨DJ1_indexOf_4cfef_c1.2.2.2.2.2.1, rfl⟩
theorem dJ1_indexOf_4cfef_32 : Dc cJ1_indexOf_4cfef 32 (.iload_n 3) 1 33 := ⟨DJ1_indexOf_4cfef_c1.2.2.2.2.2.2.1, rfl⟩
theorem dJ1_indexOf_4cfef_33 : Dc cJ1_indexOf_4cfef 33 (.invokestatic 95) 3 36 := ⟨DJ1_indexOf_4cfef_c1.2.2.2.2.2.2.2.1, rfl⟩
theorem dJ1_indexOf_4cfef_36 : Dc cJ1_indexOf_4cfef 36 (.ireturn) 1 37 := ⟨DJ1_indexOf_4cfef_c1.2.2.2.2.2.2.2.2, rfl⟩
theorem DJ1_indexOfChar_4cfef_c0 : decode cJ1_indexOfChar_4cfef 0 = .ok (.iload_n 1, 1) ∧ decode cJ1_indexOfChar_4cfef 1 = .ok (.i2b, 1) ∧ decode cJ1_indexOfChar_4cfef 2 = .ok (.istore 4, 2) ∧ decode cJ1_indexOfChar_4cfef 4 = .ok (.iload_n 2, 1) ∧ decode cJ1_indexOfChar_4cfef 5 = .ok (.istore 5, 2) ∧ decode cJ1_indexOfChar_4cfef 7 = .ok (.iload 5, 2) ∧ decode cJ1_indexOfChar_4cfef 9 = .ok (.iload_n 3, 1) ∧ decode cJ1_indexOfChar_4cfef 10 = .ok (.if_icmp .ge 21, 3) ∧ decode cJ1_indexOfChar_4cfef 13 = .ok (.aload_n 0, 1) ∧ decode cJ1_indexOfChar_4cfef 14 = .ok (.iload 5, 2) ∧ decode cJ1_indexOfChar_4cfef 16 = .ok (.baload, 1) ∧ decode cJ1_indexOfChar_4cfef 17 = .ok (.iload 4, 2) ∧ decode cJ1_indexOfChar_4cfef 19 = .ok (.if_icmp .ne 6, 3) ∧ decode cJ1_indexOfChar_4cfef 22 = .ok (.iload 5, 2) ∧ decode cJ1_indexOfChar_4cfef 24 = .ok (.ireturn, 1) ∧ decode cJ1_indexOfChar_4cfef 25 = .ok (.iinc 5 1, 3) := by decide +kernel
theorem dJ1_indexOfChar_4cfef_0 : Dc cJ1_indexOfChar_4cfef 0 (.iload_n 1) 1 1 := ⟨DJ1_indexOfChar_4cfef_c0.1, rfl⟩
theorem dJ1_indexOfChar_4cfef_1 : Dc cJ1_indexOfChar_4cfef 1 (.i2b) 1 2 := ⟨DJ1_indexOfChar_4cfef_c0.2.1, rfl⟩
theorem dJ1_indexOfChar_4cfef_2 : Dc cJ1_indexOfChar_4cfef 2 (.istore 4) 2 4 := ⟨DJ1_indexOfChar_4cfef_c0.2.2.1, rfl⟩
theorem dJ1_indexOfChar_4cfef_4 : Dc cJ1_indexOfChar_4cfef 4 (.iload_n 2) 1 5 := ⟨DJ1_indexOfChar_4cfef_c0.2.2.2.1, rfl⟩
theorem dJ1_indexOfChar_4cfef_5 : Dc cJ1_indexOfChar_4cfef 5 (.istore 5) 2 7 := ⟨DJ1_indexOfChar_4cfef_c0.2.2.2.2.1, rfl⟩
theorem dJ1_indexOfChar_4cfef_7 : Dc cJ1_indexOfChar_4cfef 7 (.iload 5) 2 9 := ⟨DJ1_indexOfChar_4cfef_c0.2.2.2.2.2.1, rfl⟩
theorem dJ1_indexOfChar_4cfef_9 : Dc cJ1_indexOfChar_4cfef 9 (.iload_n 3) 1 10 := ⟨DJ1_indexOfChar_4cfef_c0.2.2.2.2.2.2.1, rfl⟩
theorem dJ1_indexOfChar_4cfef_10 : Db cJ1_indexOfChar_4cfef 10 (fun o => .if_icmp .ge o) 13 31 := ⟨21, DJ1_indexOfChar_4cfef_c0.2.2.2.2.2.2.2.1, rfl, rfl⟩
theorem dJ1_indexOfChar_4cfef_13 : Dc cJ1_indexOfChar_4cfef 13 (.aload_n 0) 1 14 := ⟨DJ1_indexOfChar_4cfef_c0.2.2.2.2.2.2.2.2.1, rfl⟩
theorem dJ1_indexOfChar_4cfef_14 : Dc cJ1_indexOfChar_4cfef 14 (.iload 5) 2 16 := ⟨DJ1_indexOfChar_4cfef_c0.2.2.2.2.2.2.2.2.2.1, rfl⟩
theorem dJ1_indexOfChar_4cfef_16 : Dc cJ1_indexOfChar_4cfef 16 (.baload) 1 17 := ⟨DJ1_indexOfChar_4cfef_c0.2.2.2.2.2.2.2.2.2.2.1, rfl⟩
theorem dJ1_indexOfChar_4cfef_17 : Dc cJ1_indexOfChar_4cfef 17 (.iload 4) 2 19 := ⟨DJ1_indexOfChar_4cfef_c0.2.2.2.2.2.2.2.2.2.2.2.1, rfl⟩
theorem dJ1_indexOfChar_4cfef_19 : Db cJ1_indexOfChar_4cfef 19 (fun o => .if_icmp .ne o) 22 25 := ⟨6, DJ1_indexOfChar_4cfef_c0.2.2.2.2.2.2.2.2.2.2.2.2.1, rfl, rfl⟩
theorem dJ1_indexOfChar_4cfef_22 : Dc cJ1_indexOfChar_4cfef 22 (.iload 5) 2 24 := ⟨DJ1_indexOfChar_4cfef_c0.2.2.2.2.2.2.2.2.2.2.2.2.2.1, rfl⟩
theorem dJ1_indexOfChar_4cfef_24 : Dc cJ1_indexOfChar_4cfef 24 (.ireturn) 1 25 := ⟨DJ1_indexOfChar_4cfef_c0.2.2.2.2.2.2.2.2.2.2.2.2.2.2.1, rfl⟩
theorem dJ1_indexOfChar_4cfef_25 : Dc cJ1_indexOfChar_4cfef 25 (.iinc 5 1) 3 28 := ⟨DJ1_indexOfChar_4cfef_c0.2.2.2.2.2.2.2.2.2.2.2.2.2.2.2, rfl⟩
theorem DJ1_indexOfChar_4cfef_c1 : decode cJ1_indexOfChar_4cfef 28 = .ok (.goto (-21), 3) ∧ decode cJ1_indexOfChar_4cfef 31 = .ok (.iconst (-1), 1) ∧ decode cJ1_indexOfChar_4cfef 32 = .ok (.ireturn, 1) := by decide +kernel
theorem dJ1_indexOfChar_4cfef_28 : Db cJ1_indexOfChar_4cfef 28 .goto 31 7 := ⟨-21, DJ1_indexOfChar_4cfef_c1.1, rfl, rfl⟩
theorem dJ1_indexOfChar_4cfef_31 : Dc cJ1_indexOfChar_4cfef 31 (.iconst (-1)) 1 32 := ⟨DJ1_indexOfChar_4cfef_c1.2.1, rfl⟩
theorem dJ1_indexOfChar_4cfef_32 : Dc cJ1_indexOfChar_4cfef 32 (.ireturn) 1 33 := ⟨DJ1_indexOfChar_4cfef_c1.2.2, rfl⟩
theorem DJ2_getChar_3b067_c0 : decode cJ2_getChar_3b067 0 = .ok (.getstatic 44, 3) ∧ decode cJ2_getChar_3b067 3 = .ok (.ifCond .ne 25, 3) ∧ decode cJ2_getChar_3b067 6 = .ok (.iload_n 1, 1) ∧ decode cJ2_getChar_3b067 7 = .ok (.ifCond .lt 11, 3) ∧ decode cJ2_getChar_3b067 10 = .ok (.iload_n 1, 1) ∧ decode cJ2_getChar_3b067 11 = .ok (.aload_n 0, 1) ∧ decode cJ2_getChar_3b067 12 = .ok (.invokestatic 48, 3) ∧ decode cJ2_getChar_3b067 15 = .ok (.if_icmp .lt 13, 3) ∧ decode cJ2_getChar_3b067 18 = .ok (.new 52, 3) ∧ decode cJ2_getChar_3b067 21 = .ok (.dup, 1) ∧ decode cJ2_getChar_3b067 22 = .ok (.ldc 54, 2) ∧ decode cJ2_getChar_3b067 24 = .ok (.invokespecial 56, 3) ∧ decode cJ2_getChar_3b067 27 = .ok (.athrow, 1) ∧ decode cJ2_getChar_3b067 28 = .ok (.iload_n 1, 1) ∧ decode cJ2_getChar_3b067 29 = .ok (.iconst 1, 1) ∧ decode cJ2_getChar_3b067 30 = .ok (.ishl, 1) := by decide +kernel
theorem dJ2_getChar_3b067_0 : Dc cJ2_getChar_3b067 0 (.getstatic 44) 3 3 := ⟨DJ2_getChar_3b067_c0.1, rfl⟩
theorem dJ2_getChar_3b067_3 : Db cJ2_getChar_3b067 3 (fun o => .ifCond .ne o) 6 28 := ⟨25, DJ2_getChar_3b067_c0.2.1, rfl, rfl⟩
theorem dJ2_getChar_3b067_6 : Dc cJ2_getChar_3b067 6 (.iload_n 1) 1 7 := ⟨DJ2_getChar_3b067_c0.2.2.1, rfl⟩
theorem dJ2_getChar_3b067_7 : Db cJ2_getChar_3b067 7 (fun o => .ifCond .lt o) 10 18 := ⟨11, DJ2_getChar_3b067_c0.2.2.2.1, rfl, rfl⟩
theorem dJ2_getChar_3b067_10 : Dc cJ2_getChar_3b067 10 (.iload_n 1) 1 11 := ⟨DJ2_getChar_3b067_c0.2.2.2.2.1, rfl⟩
theorem dJ2_getChar_3b067_11 : Dc cJ2_getChar_3b067 11 (.aload_n 0) 1 12 := ⟨DJ2_getChar_3b067_c0.2.2.2.2.2.1, rfl⟩
theorem dJ2_getChar_3b067_12 : Dc cJ2_getChar_3b067 12 (.invokestatic 48) 3 15 := ⟨DJ2_getChar_3b067_c0.2.2.2.2.2.2.1, rfl⟩
theorem dJ2_getChar_3b067_15 : Db cJ2_getChar_3b067 15 (fun o => .if_icmp .lt o) 18 28 := ⟨13, DJ2_getChar_3b067_c0.2.2.2.2.2.2.2.1, rfl, rfl⟩
theorem dJ2_getChar_3b067_18 : Dc cJ2_getChar_3b067 18 (.new 52) 3 21 := ⟨DJ2_getChar_3b067_c0.2.2.2.2.2.2.2.2.1, rfl⟩
theorem dJ2_getChar_3b067_21 : Dc cJ2_getChar_3b067 21 (.dup) 1 22 := ⟨DJ2_getChar_3b067_c0.2.2.2.2.2.2.2.2.2.1, rfl⟩
theorem dJ2_getChar_3b067_22 : Dc cJ2_getChar_3b067 22 (.ldc 54) 2 24 := ⟨DJ2_getChar_3b067_c0.2.2.2.2.2.2.2.2.2.2.1, rfl⟩
theorem dJ2_getChar_3b067_24 : Dc cJ2_getChar_3b067 24 (.invokespecial 56) 3 27 := ⟨DJ2_getChar_3b067_c0.2.2.2.2.2.2.2.2.2.2.2.1, rfl⟩
theorem dJ2_getChar_3b067_27 : Dc cJ2_getChar_3b067 27 (.athrow) 1 28 := ⟨DJ2_getChar_3b067_c0.2.2.2.2.2.2.2.2.2.2.2.2.1, rfl⟩
theorem dJ2_getChar_3b067_28 : Dc cJ2_getChar_3b067 28 (.iload_n 1) 1 29 := ⟨DJ2_getChar_3b067_c0.2.2.2.2.2.2.2.2.2.2.2.2.2.1, rfl⟩
theorem dJ2_getChar_3b067_29 : Dc cJ2_getChar_3b067 29 (.iconst 1) 1 30 := ⟨DJ2_getChar_3b067_c0.2.2.2.2.2.2.2.2.2.2.2.2.2.2.1, rfl⟩
theorem dJ2_getChar_3b067_30 : Dc cJ2_getChar_3b067 30 (.ishl) 1 31 := ⟨DJ2_getChar_3b067_c0.2.2.2.2.2.2.2.2.2.2.2.2.2.2.2, rfl⟩
theorem DJ2_getChar_3b067_c1 : decode cJ2_getChar_3b067 31 = .ok (.istore_n 1, 1) ∧ decode cJ2_getChar_3b067 32 = .ok (.aload_n 0, 1) ∧ decode cJ2_getChar_3b067 33 = .ok (.iload_n 1, 1) ∧ decode cJ2_getChar_3b067 34 = .ok (.iinc 1 1, 3) ∧ decode cJ2_getChar_3b067 37 = .ok (.baload, 1) ∧ decode cJ2_getChar_3b067 38 = .ok (.sipush 255, 3) ∧ decode cJ2_getChar_3b067 41 = .ok (.iand, 1) ∧ decode cJ2_getChar_3b067 42 = .ok (.getstatic 59, 3) ∧ decode cJ2_getChar_3b067 45 = .ok (.ishl, 1) ∧ decode cJ2_getChar_3b067 46 = .ok (.aload_n 0, 1) ∧ decode cJ2_getChar_3b067 47 = .ok (.iload_n 1, 1) ∧ decode cJ2_getChar_3b067 48 = .ok (.baload, 1) ∧ decode cJ2_getChar_3b067 49 = .ok (.sipush 255, 3) ∧ decode cJ2_getChar_3b067 52 = .ok (.iand, 1) ∧ decode cJ2_getChar_3b067 53 = .ok (.getstatic 63, 3) ∧ decode cJ2_getChar_3b067 56 = .ok (.ishl, 1) := by decide +kernel
theorem dJ2_getChar_3b067_31 : Dc cJ2_getChar_3b067 31 (.istore_n 1) 1 32 := ⟨DJ2_getChar_3b067_c1.1, rfl⟩
theorem dJ2_getChar_3b067_32 : Dc cJ2_getChar_3b067 32 (.aload_n 0) 1 33 := ⟨DJ2_getChar_3b067_c1.2.1, rfl⟩
theorem dJ2_getChar_3b067_33 : Dc cJ2_getChar_3b067 33 (.iload_n 1) 1 34 := ⟨DJ2_getChar_3b067_c1.2.2.1, rfl⟩
theorem dJ2_getChar_3b067_34 : Dc cJ2_getChar_3b067 34 (.iinc 1 1) 3 37 := ⟨DJ2_getChar_3b067_c1.2.2.2.1, rfl⟩
theorem dJ2_getChar_3b067_37 : Dc cJ2_getChar_3b067 37 (.baload) 1 38 := ⟨DJ2_getChar_3b067_c1.2.2.2.2.1, rfl⟩
theorem dJ2_getChar_3b067_38 : Dc cJ2_getChar_3b067 38 (.sipush 255) 3 41 := ⟨DJ2_getChar_3b067_c1.2.2.2.2.2.1, rfl⟩
theorem dJ2_getChar_3b067_41 : Dc cJ2_getChar_3b067 41 (.iand) 1 42 := ⟨DJ2_getChar_3b067_c1.2.2.2.2.2.2.1, rfl⟩
theorem dJ2_getChar_3b067_42 : Dc cJ2_getChar_3b067 42 (.getstatic 59) 3 45 := ⟨DJ2_getChar_3b067_c1.2.2.2.2.2.2.2.1, rfl⟩
theorem dJ2_getChar_3b067_45 : Dc cJ2_getChar_3b067 45 (.ishl) 1 46 := ⟨DJ2_getChar_3b067_c1.2.2.2.2.2.2.2.2.1, rfl⟩
theorem dJ2_getChar_3b067_46 : Dc cJ2_getChar_3b067 46 (.aload_n 0) 1 47 := ⟨DJ2_getChar_3b067_c1.2.2.2.2.2.2.2.2.2.1, rfl⟩
theorem dJ2_getChar_3b067_47 : Dc cJ2_getChar_3b067 47 (.iload_n 1) 1 48 := ⟨DJ2_getChar_3b067_c1.2.2.2.2.2.2.2.2.2.2.1, rfl⟩
theorem dJ2_getChar_3b067_48 : Dc cJ2_getChar_3b067 48 (.baload) 1 49 := ⟨DJ2_getChar_3b067_c1.2.2.2.2.2.2.2.2.2.2.2.1, rfl⟩
theorem dJ2_getChar_3b067_49 : Dc cJ2_getChar_3b067 49 (.sipush 255) 3 52 := ⟨DJ2_getChar_3b067_c1.2.2.2.2.2.2.2.2.2.2.2.2.1, rfl⟩
theorem dJ2_getChar_3b067_52 : Dc cJ2_getChar_3b067 52 (.iand) 1 53 := ⟨DJ2_getChar_3b067_c1.2.2.2.2.2.2.2.2.2.2.2.2.2.1, rfl⟩
theorem dJ2_getChar_3b067_53 : Dc cJ2_getChar_3b067 53 (.getstatic 63) 3 56 := ⟨DJ2_getChar_3b067_c1.2.2.2.2.2.2.2.2.2.2.2.2.2.2.1, rfl⟩
theorem dJ2_getChar_3b067_56 : Dc cJ2_getChar_3b067 56 (.ishl) 1 57 := ⟨DJ2_getChar_3b067_c1.2.2.2.2.2.2.2.2.2.2.2.2.2.2.2, rfl⟩
theorem DJ2_getChar_3b067_c2 : decode cJ2_getChar_3b067 57 = .ok (.ior, 1) ∧ decode cJ2_getChar_3b067 58 = .ok (.i2c, 1) ∧ decode cJ2_getChar_3b067 59 = .ok (.ireturn, 1) := by decide +kernel
theorem dJ2_getChar_3b067_57 : Dc cJ2_getChar_3b067 57 (.ior) 1 58 := ⟨DJ2_getChar_3b067_c2.1, rfl⟩
theorem dJ2_getChar_3b067_58 : Dc cJ2_getChar_3b067 58 (.i2c) 1 59 := ⟨DJ2_getChar_3b067_c2.2.1, rfl⟩
theorem dJ2_getChar_3b067_59 : Dc cJ2_getChar_3b067 59 (.ireturn) 1 60 := ⟨DJ2_getChar_3b067_c2.2.2, rfl⟩
theorem DJ2_length_9d52b_c0 : decode cJ2_length_9d52b 0 = .ok (.aload_n 0, 1) ∧ decode cJ2_length_9d52b 1 = .ok (.arraylength, 1) ∧ decode cJ2_length_9d52b 2 = .ok (.iconst 1, 1) ∧ decode cJ2_length_9d52b 3 = .ok (.ishr, 1) ∧ decode cJ2_length_9d52b 4 = .ok (.ireturn, 1) := by decide +kernel
theorem dJ2_length_9d52b_0 : Dc cJ2_length_9d52b 0 (.aload_n 0) 1 1 := ⟨DJ2_length_9d52b_c0.1, rfl⟩
theorem dJ2_length_9d52b_1 : Dc cJ2_length_9d52b 1 (.arraylength) 1 2 := ⟨DJ2_length_9d52b_c0.2.1, rfl⟩
theorem dJ2_length_9d52b_2 : Dc cJ2_length_9d52b 2 (.iconst 1) 1 3 := ⟨DJ2_length_9d52b_c0.2.2.1, rfl⟩
theorem dJ2_length_9d52b_3 : Dc cJ2_length_9d52b 3 (.ishr) 1 4 := ⟨DJ2_length_9d52b_c0.2.2.2.1, rfl⟩
theorem dJ2_length_9d52b_4 : Dc cJ2_length_9d52b 4 (.ireturn) 1 5 := ⟨DJ2_length_9d52b_c0.2.2.2.2, rfl⟩
theorem DJ2_indexOf_4cfef_c0 : decode cJ2_indexOf_4cfef 0 = .ok (.iload_n 2, 1) ∧ decode cJ2_indexOf_4cfef 1 = .ok (.iconst 0, 1) ∧ decode cJ2_indexOf_4cfef 2 = .ok (.invokestatic 224, 3) ∧ decode cJ2_indexOf_4cfef 5 = .ok (.istore_n 2, 1) ∧ decode cJ2_indexOf_4cfef 6 = .ok (.iload_n 3, 1) ∧ decode cJ2_indexOf_4cfef 7 = .ok (.aload_n 0, 1) ∧ decode cJ2_indexOf_4cfef 8 = .ok (.arraylength, 1) ∧ decode cJ2_indexOf_4cfef 9 = .ok (.iconst 1, 1) ∧ decode cJ2_indexOf_4cfef 10 = .ok (.ishr, 1) ∧ decode cJ2_indexOf_4cfef 11 = .ok (.invokestatic 183, 3) ∧ decode cJ2_indexOf_4cfef 14 = .ok (.istore_n 3, 1) ∧ decode cJ2_indexOf_4cfef 15 = .ok (.iload_n 2, 1) ∧ decode cJ2_indexOf_4cfef 16 = .ok (.iload_n 3, 1) ∧ decode cJ2_indexOf_4cfef 17 = .ok (.if_icmp .lt 5, 3) ∧ decode cJ2_indexOf_4cfef 20 = .ok (.iconst (-1), 1) ∧ decode cJ2_indexOf_4cfef 21 = .ok (.ireturn, 1) := by decide +kernel
theorem dJ2_indexOf_4cfef_0 : Dc cJ2_indexOf_4cfef 0 (.iload_n 2) 1 1 := ⟨DJ2_indexOf_4cfef_c0.1, rfl⟩
theorem dJ2_indexOf_4cfef_1 : Dc cJ2_indexOf_4cfef 1 (.iconst 0) 1 2 := ⟨DJ2_indexOf_4cfef_c0.2.1, rfl⟩
theorem dJ2_indexOf_4cfef_2 : Dc cJ2_indexOf_4cfef 2 (.invokestatic 224) 3 5 := ⟨DJ2_indexOf_4cfef_c0.2.2.1, rfl⟩
theorem dJ2_indexOf_4cfef_5 : Dc cJ2_indexOf_4cfef 5 (.istore_n 2) 1 6 := ⟨DJ2_indexOf_4cfef_c0.2.2.2.1, rfl⟩
theorem dJ2_indexOf_4cfef_6 : Dc cJ2_indexOf_4cfef 6 (.iload_n 3) 1 7 := ⟨DJ2_indexOf_4cfef_c0.2.2.2.2.1, rfl⟩
theorem dJ2_indexOf_4cfef_7 : Dc cJ2_indexOf_4cfef 7 (.aload_n 0) 1 8 := ⟨DJ2_indexOf_4cfef_c0.2.2.2.2.2.1, rfl⟩
theorem dJ2_indexOf_4cfef_8 : Dc cJ2_indexOf_4cfef 8 (.arraylength) 1 9 := ⟨DJ2_indexOf_4cfef_c0.2.2.2.2.2.2.1, rfl⟩
theorem dJ2_indexOf_4cfef_9 : Dc cJ2_indexOf_4cfef 9 (.iconst 1) 1 10 := ⟨DJ2_indexOf_4cfef_c0.2.2.2.2.2.2.2.1, rfl⟩
theorem dJ2_indexOf_4cfef_10 : Dc cJ2_indexOf_4cfef 10 (.ishr) 1 11 := ⟨DJ2_indexOf_4cfef_c0.2.2.2.2.2.2.2.2.1, rfl⟩
theorem dJ2_indexOf_4cfef_11 : Dc cJ2_indexOf_4cfef 11 (.invokestatic 183) 3 14 := ⟨DJ2_indexOf_4cfef_c0.2.2.2.2.2.2.2.2.2.1, rfl⟩
theorem dJ2_indexOf_4cfef_14 : Dc cJ2_indexOf_4cfef 14 (.istore_n 3) 1 15 := ⟨DJ2_indexOf_4cfef_c0.2.2.2.2.2.2.2.2.2.2.1, rfl⟩
theorem dJ2_indexOf_4cfef_15 : Dc cJ2_indexOf_4cfef 15 (.iload_n 2) 1 16 := ⟨DJ2_indexOf_4cfef_c0.2.2.2.2.2.2.2.2.2.2.2.1, rfl⟩
theorem dJ2_indexOf_4cfef_16 : Dc cJ2_indexOf_4cfef 16 (.iload_n 3) 1 17 := ⟨DJ2_indexOf_4cfef_c0.2.2.2.2.2.2.2.2.2.2.2.2.1, rfl⟩
theorem dJ2_indexOf_4cfef_17 : Db cJ2_indexOf_4cfef 17 (fun o => .if_icmp .lt o) 20 22 := ⟨5, DJ2_indexOf_4cfef_c0.2.2.2.2.2.2.2.2.2.2.2.2.2.1, rfl, rfl⟩
theorem dJ2_indexOf_4cfef_20 : Dc cJ2_indexOf_4cfef 20 (.iconst (-1)) 1 21 := ⟨DJ2_indexOf_4cfef_c0.2.2.2.2.2.2.2.2.2.2.2.2.2.2.1, rfl⟩
theorem dJ2_indexOf_4cfef_21 : Dc cJ2_indexOf_4cfef 21 (.ireturn) 1 22 := ⟨DJ2_indexOf_4cfef_c0.2.2.2.2.2.2.2.2.2.2.2.2.2.2.2, rfl⟩
theorem DJ2_indexOf_4cfef_c1 : decode cJ2_indexOf_4cfef 22 = .ok (.iload_n 1, 1) ∧ decode cJ2_indexOf_4cfef 23 = .ok (.ldc 227, 2) ∧ decode cJ2_indexOf_4cfef 25 = .ok (.if_icmp .ge 11, 3) ∧ decode cJ2_indexOf_4cfef 28 = .ok (.aload_n 0, 1) ∧ decode cJ2_indexOf_4cfef 29 = .ok (.iload_n 1, 1) ∧ decode cJ2_indexOf_4cfef 30 = .ok (.iload_n 2, 1) ∧ decode cJ2_indexOf_4cfef 31 = .ok (.iload_n 3, 1) ∧ decode cJ2_indexOf_4cfef 32 = .ok (.invokestatic 228, 3) ∧ decode cJ2_indexOf_4cfef 35 = .ok (.ireturn, 1) ∧ decode cJ2_indexOf_4cfef 36 = .ok (.aload_n 0, 1) ∧ decode cJ2_indexOf_4cfef 37 = .ok (.iload_n 1, 1) ∧ decode cJ2_indexOf_4cfef 38 = .ok (.iload_n 2, 1) ∧ decode cJ2_indexOf_4cfef 39 = .ok (.iload_n 3, 1) ∧ decode cJ2_indexOf_4cfef 40 = .ok (.invokestatic 232, 3) ∧ decode cJ2_indexOf_4cfef 43 = .ok (.ireturn, 1) := by decide +kernel
theorem dJ2_indexOf_4cfef_22 : Dc cJ2_indexOf_4cfef 22 (.iload_n 1) 1 23 := ⟨DJ2_indexOf_4cfef_c1.1, rfl⟩
theorem dJ2_indexOf_4cfef_23 : Dc cJ2_indexOf_4cfef 23 (.ldc 227) 2 25 := ⟨DJ2_indexOf_4cfef_c1.2.1, rfl⟩
theorem dJ2_indexOf_4cfef_25 : Db cJ2_indexOf_4cfef 25 (fun o => .if_icmp .ge o) 28 36 := ⟨11, DJ2_indexOf_4cfef_c1.2.2.1, rfl, rfl⟩
theorem dJ2_indexOf_4cfef_28 : Dc cJ2_indexOf_4cfef 28 (.aload_n 0) 1 29 := ⟨DJ2_indexOf_4cfef_c1.2.2.2.1, rfl⟩
theorem dJ2_indexOf_4cfef_29 : Dc cJ2_indexOf_4cfef 29 (.iload_n 1) 1 30 := ⟨DJ2_indexOf_4cfef_c1.2.2.2.2.1, rfl⟩
theorem dJ2_indexOf_4cfef_30 : Dc cJ2_indexOf_4cfef 30 (.iload_n 2) 1 31 := ⟨DJ2_indexOf_4cfef_c1.2.2.2.2.2.1, rfl⟩
theorem dJ2_indexOf_4cfef_31 : Dc cJ2_indexOf_4cfef 31 (.iload_n 3) 1 32 := ⟨DJ2_indexOf_4cfef_c1.2.2.2.2.2.2.1, rfl⟩
theorem dJ2_indexOf_4cfef_32 : Dc cJ2_indexOf_4cfef 32 (.invokestatic 228) 3 35 := ⟨DJ2_indexOf_4cfef_c1.2.2.2.2.2.2.2.1, rfl⟩
theorem dJ2_indexOf_4cfef_35 : Dc cJ2_indexOf_4cfef 35 (.ireturn) 1 36 := ⟨DJ2_indexOf_4cfef_c1.2.2.2.2.2.2.2.2.1, rfl⟩
theorem dJ2_indexOf_4cfef_36 : Dc cJ2_indexOf_4cfef 36 (.aload_n 0) 1 37 := ⟨DJ2_indexOf_4cfef_c1.2.2.2.2.2.2.2.2.2.1, rfl⟩
theorem dJ2_indexOf_4cfef_37 : Dc cJ2_indexOf_4cfef 37 (.iload_n 1) 1 38 := ⟨DJ2_indexOf_4cfef_c1.2.2.2.2.2.2.2.2.2.2.1, rfl⟩
theorem dJ2_indexOf_4cfef_38 : Dc cJ2_indexOf_4cfef 38 (.iload_n 2) 1 39 := ⟨DJ2_indexOf_4cfef_c1.2.2.2.2.2.2.2.2.2.2.2.1, rfl⟩
theorem dJ2_indexOf_4cfef_39 : Dc cJ2_indexOf_4cfef 39 (.iload_n 3) 1 40 := ⟨DJ2_indexOf_4cfef_c1.2.2.2.2.2.2.2.2.2.2.2.2.1, rfl⟩
theorem dJ2_indexOf_4cfef_40 : Dc cJ2_indexOf_4cfef 40 (.invokestatic 232) 3 43 := ⟨DJ2_indexOf_4cfef_c1.2.2.2.2.2.2.2.2.2.2.2.2.2.1, rfl⟩
theorem dJ2_indexOf_4cfef_43 : Dc cJ2_indexOf_4cfef 43 (.ireturn) 1 44 := ⟨DJ2_indexOf_4cfef_c1.2.2.2.2.2.2.2.2.2.2.2.2.2.2, rfl⟩
theorem DJ2_indexOfChar_4cfef_c0 : decode cJ2_indexOfChar_4cfef 0 = .ok (.iload_n 2, 1) ∧ decode cJ2_indexOfChar_4cfef 1 = .ok (.iload_n 3, 1) ∧ decode cJ2_indexOfChar_4cfef 2 = .ok (.aload_n 0, 1) ∧ decode cJ2_indexOfChar_4cfef 3 = .ok (.invokestatic 96, 3) ∧ decode cJ2_indexOfChar_4cfef 6 = .ok (.aload_n 0, 1) ∧ decode cJ2_indexOfChar_4cfef 7 = .ok (.iload_n 1, 1) ∧ decode cJ2_indexOfChar_4cfef 8 = .ok (.iload_n 2, 1) ∧ decode cJ2_indexOfChar_4cfef 9 = .ok (.iload_n 3, 1) ∧ decode cJ2_indexOfChar_4cfef 10 = .ok (.invokestatic 244, 3) ∧ decode cJ2_indexOfChar_4cfef 13 = .ok (.ireturn, 1) := by decide +kernel
theorem dJ2_indexOfChar_4cfef_0 : Dc cJ2_indexOfChar_4cfef 0 (.iload_n 2) 1 1 := ⟨DJ2_indexOfChar_4cfef_c0.1, rfl⟩
theorem dJ2_indexOfChar_4cfef_1 : Dc cJ2_indexOfChar_4cfef 1 (.iload_n 3) 1 2 := ⟨DJ2_indexOfChar_4cfef_c0.2.1, rfl⟩
theorem dJ2_indexOfChar_4cfef_2 : Dc cJ2_indexOfChar_4cfef 2 (.aload_n 0) 1 3 := ⟨DJ2_indexOfChar_4cfef_c0.2.2.1, rfl⟩
theorem dJ2_indexOfChar_4cfef_3 : Dc cJ2_indexOfChar_4cfef 3 (.invokestatic 96) 3 6 := ⟨DJ2_indexOfChar_4cfef_c0.2.2.2.1, rfl⟩
theorem dJ2_indexOfChar_4cfef_6 : Dc cJ2_indexOfChar_4cfef 6 (.aload_n 0) 1 7 := ⟨DJ2_indexOfChar_4cfef_c0.2.2.2.2.1, rfl⟩
theorem dJ2_indexOfChar_4cfef_7 : Dc cJ2_indexOfChar_4cfef 7 (.iload_n 1) 1 8 := ⟨DJ2_indexOfChar_4cfef_c0.2.2.2.2.2.1, rfl⟩
theorem dJ2_indexOfChar_4cfef_8 : Dc cJ2_indexOfChar_4cfef 8 (.iload_n 2) 1 9 := ⟨DJ2_indexOfChar_4cfef_c0.2.2.2.2.2.2.1, rfl⟩
theorem dJ2_indexOfChar_4cfef_9 : Dc cJ2_indexOfChar_4cfef 9 (.iload_n 3) 1 10 := ⟨DJ2_indexOfChar_4cfef_c0.2.2.2.2.2.2.2.1, rfl⟩
theorem dJ2_indexOfChar_4cfef_10 : Dc cJ2_indexOfChar_4cfef 10 (.invokestatic 244) 3 13 := ⟨DJ2_indexOfChar_4cfef_c0.2.2.2.2.2.2.2.2.1, rfl⟩
theorem dJ2_indexOfChar_4cfef_13 : Dc cJ2_indexOfChar_4cfef 13 (.ireturn) 1 14 := ⟨DJ2_indexOfChar_4cfef_c0.2.2.2.2.2.2.2.2.2, rfl⟩
theorem DJ2_indexOfCharUnsafe_4cfef_c0 : decode cJ2_indexOfCharUnsafe_4cfef 0 = .ok (.iload_n 2, 1) ∧ decode cJ2_indexOfCharUnsafe_4cfef 1 = .ok (.istore 4, 2) ∧ decode cJ2_indexOfCharUnsafe_4cfef 3 = .ok (.iload 4, 2) ∧ decode cJ2_indexOfCharUnsafe_4cfef 5 = .ok (.iload_n 3, 1) ∧ decode cJ2_indexOfCharUnsafe_4cfef 6 = .ok (.if_icmp .ge 22, 3) ∧ decode cJ2_indexOfCharUnsafe_4cfef 9 = .ok (.aload_n 0, 1) ∧ decode cJ2_indexOfCharUnsafe_4cfef 10 = .ok (.iload 4, 2) ∧ decode cJ2_indexOfCharUnsafe_4cfef 12 = .ok (.invokestatic 71, 3) ∧ decode cJ2_indexOfCharUnsafe_4cfef 15 = .ok (.iload_n 1, 1) ∧ decode cJ2_indexOfCharUnsafe_4cfef 16 = .ok (.if_icmp .ne 6, 3) ∧ decode cJ2_indexOfCharUnsafe_4cfef 19 = .ok (.iload 4, 2) ∧ decode cJ2_indexOfCharUnsafe_4cfef 21 = .ok (.ireturn, 1) ∧ decode cJ2_indexOfCharUnsafe_4cfef 22 = .ok (.iinc 4 1, 3) ∧ decode cJ2_indexOfCharUnsafe_4cfef 25 = .ok (.goto (-22), 3) ∧ decode cJ2_indexOfCharUnsafe_4cfef 28 = .ok (.iconst (-1), 1) ∧ decode cJ2_indexOfCharUnsafe_4cfef 29 = .ok (.ireturn, 1) := by decide +kernel
theorem dJ2_indexOfCharUnsafe_4cfef_0 : Dc cJ2_indexOfCharUnsafe_4cfef 0 (.iload_n 2) 1 1 := ⟨DJ2_indexOfCharUnsafe_4cfef_c0.1, rfl⟩
theorem dJ2_indexOfCharUnsafe_4cfef_1 : Dc cJ2_indexOfCharUnsafe_4cfef 1 (.istore 4) 2 3 := ⟨DJ2_indexOfCharUnsafe_4cfef_c0.2.1, rfl⟩
theorem dJ2_indexOfCharUnsafe_4cfef_3 : Dc cJ2_indexOfCharUnsafe_4cfef 3 (.iload 4) 2 5 := ⟨DJ2_indexOfCharUnsafe_4cfef_c0.2.2.1, rfl⟩
theorem dJ2_indexOfCharUnsafe_4cfef_5 : Dc cJ2_indexOfCharUnsafe_4cfef 5 (.iload_n 3) 1 6 := ⟨DJ2_indexOfCharUnsafe_4cfef_c0.2.2.2.1, rfl⟩
theorem dJ2_indexOfCharUnsafe_4cfef_6 : Db cJ2_indexOfCharUnsafe_4cfef 6 (fun o => .if_icmp .ge o) 9 28 := ⟨22, DJ2_indexOfCharUnsafe_4cfef_c0.2.2.2.2.1, rfl, rfl⟩
theorem dJ2_indexOfCharUnsafe_4cfef_9 : Dc cJ2_indexOfCharUnsafe_4cfef 9 (.aload_n 0) 1 10 := ⟨DJ2_indexOfCharUnsafe_4cfef_c0.2.2.2.2.2.1, rfl⟩
theorem dJ2_indexOfCharUnsafe_4cfef_10 : Dc cJ2_indexOfCharUnsafe_4cfef 10 (.iload 4) 2 12 := ⟨DJ2_indexOfCharUnsafe_4cfef_c0.2.2.2.2.2.2.1, rfl⟩
theorem dJ2_indexOfCharUnsafe_4cfef_12 : Dc cJ2_indexOfCharUnsafe_4cfef 12 (.invokestatic 71) 3 15 := ⟨DJ2_indexOfCharUnsafe_4cfef_c0.2.2.2.2.2.2.2.1, rfl⟩
theorem dJ2_indexOfCharUnsafe_4cfef_15 : Dc cJ2_indexOfCharUnsafe_4cfef 15 (.iload_n 1) 1 16 := ⟨DJ2_indexOfCharUnsafe_4cfef_c0.2.2.2.2.2.2.2.2.1, rfl⟩
theorem dJ2_indexOfCharUnsafe_4cfef_16 : Db cJ2_indexOfCharUnsafe_4cfef 16 (fun o => .if_icmp .ne o) 19 22 := ⟨6, DJ2_indexOfCharUnsafe_4cfef_c0.2.2.2.2.2.2.2.2.2.1, rfl, rfl⟩
theorem dJ2_indexOfCharUnsafe_4cfef_19 : Dc cJ2_indexOfCharUnsafe_4cfef 19 (.iload 4) 2 21 := ⟨DJ2_indexOfCharUnsafe_4cfef_c0.2.2.2.2.2.2.2.2.2.2.1, rfl⟩
theorem dJ2_indexOfCharUnsafe_4cfef_21 : Dc cJ2_indexOfCharUnsafe_4cfef 21 (.ireturn) 1 22 := ⟨DJ2_indexOfCharUnsafe_4cfef_c0.2.2.2.2.2.2.2.2.2.2.2.1, rfl⟩
theorem dJ2_indexOfCharUnsafe_4cfef_22 : Dc cJ2_indexOfCharUnsafe_4cfef 22 (.iinc 4 1) 3 25 := ⟨DJ2_indexOfCharUnsafe_4cfef_c0.2.2.2.2.2.2.2.2.2.2.2.2.1, rfl⟩
theorem dJ2_indexOfCharUnsafe_4cfef_25 : Db cJ2_indexOfCharUnsafe_4cfef 25 .goto 28 3 := ⟨-22, DJ2_indexOfCharUnsafe_4cfef_c0.2.2.2.2.2.2.2.2.2.2.2.2.2.1, rfl, rfl⟩
theorem dJ2_indexOfCharUnsafe_4cfef_28 : Dc cJ2_indexOfCharUnsafe_4cfef 28 (.iconst (-1)) 1 29 := ⟨DJ2_indexOfCharUnsafe_4cfef_c0.2.2.2.2.2.2.2.2.2.2.2.2.2.2.1, rfl⟩
theorem dJ2_indexOfCharUnsafe_4cfef_29 : Dc cJ2_indexOfCharUnsafe_4cfef 29 (.ireturn) 1 30 := ⟨DJ2_indexOfCharUnsafe_4cfef_c0.2.2.2.2.2.2.2.2.2.2.2.2.2.2.2, rfl⟩
theorem DJ2_indexOfSupplementary_4cfef_c0 : decode cJ2_indexOfSupplementary_4cfef 0 = .ok (.iload_n 1, 1) ∧ decode cJ2_indexOfSupplementary_4cfef 1 = .ok (.invokestatic 164, 3) ∧ decode cJ2_indexOfSupplementary_4cfef 4 = .ok (.ifCond .eq 65, 3) ∧ decode cJ2_indexOfSupplementary_4cfef 7 = .ok (.iload_n 1, 1) ∧ decode cJ2_indexOfSupplementary_4cfef 8 = .ok (.invokestatic 157, 3) ∧ decode cJ2_indexOfSupplementary_4cfef 11 = .ok (.istore 4, 2) ∧ decode cJ2_indexOfSupplementary_4cfef 13 = .ok (.iload_n 1, 1) ∧ decode cJ2_indexOfSupplementary_4cfef 14 = .ok (.invokestatic 161, 3) ∧ decode cJ2_indexOfSupplementary_4cfef 17 = .ok (.istore 5, 2) ∧ decode cJ2_indexOfSupplementary_4cfef 19 = .ok (.iload_n 2, 1) ∧ decode cJ2_indexOfSupplementary_4cfef 20 = .ok (.iload_n 3, 1) ∧ decode cJ2_indexOfSupplementary_4cfef 21 = .ok (.aload_n 0, 1) ∧ decode cJ2_indexOfSupplementary_4cfef 22 = .ok (.invokestatic 96, 3) ∧ decode cJ2_indexOfSupplementary_4cfef 25 = .ok (.iload_n 2, 1) ∧ decode cJ2_indexOfSupplementary_4cfef 26 = .ok (.istore 6, 2) ∧ decode cJ2_indexOfSupplementary_4cfef 28 = .ok (.iload 6, 2) := by decide +kernel
theorem dJ2_indexOfSupplementary_4cfef_0 : Dc cJ2_indexOfSupplementary_4cfef 0 (.iload_n 1) 1 1 := ⟨DJ2_indexOfSupplementary_4cfef_c0.1, rfl⟩
theorem dJ2_indexOfSupplementary_4cfef_1 : Dc cJ2_indexOfSupplementary_4cfef 1 (.invokestatic 164) 3 4 := ⟨DJ2_indexOfSupplementary_4cfef_c0.2.1, rfl⟩
theorem dJ2_indexOfSupplementary_4cfef_4 : Db cJ2_indexOfSupplementary_4cfef 4 (fun o => .ifCond .eq o) 7 69 := ⟨65, DJ2_indexOfSupplementary_4cfef_c0.2.2.1, rfl, rfl⟩
theorem dJ2_indexOfSupplementary_4cfef_7 : Dc cJ2_indexOfSupplementary_4cfef 7 (.iload_n 1) 1 8 := ⟨DJ2_indexOfSupplementary_4cfef_c0.2.2.2.1, rfl⟩
theorem dJ2_indexOfSupplementary_4cfef_8 : Dc cJ2_indexOfSupplementary_4cfef 8 (.invokestatic 157) 3 11 := ⟨DJ2_indexOfSupplementary_4cfef_c0.2.2.2.2.1, rfl⟩
theorem dJ2_indexOfSupplementary_4cfef_11 : Dc cJ2_indexOfSupplementary_4cfef 11 (.istore 4) 2 13 := ⟨DJ2_indexOfSupplementary_4cfef_c0.2.2.2.2.2.1, rfl⟩
theorem dJ2_indexOfSupplementary_4cfef_13 : Dc cJ2_indexOfSupplementary_4cfef 13 (.iload_n 1) 1 14 := ⟨DJ2_indexOfSupplementary_4cfef_c0.2.2.2.2.2.2.1, rfl⟩
theorem dJ2_indexOfSupplementary_4cfef_14 : Dc cJ2_indexOfSupplementary_4cfef 14 (.invokestatic 161) 3 17 := ⟨DJ2_indexOfSupplementary_4cfef_c0.2.2.2.2.2.2.2.1, rfl⟩
theorem dJ2_indexOfSupplementary_4cfef_17 : Dc cJ2_indexOfSupplementary_4cfef 17 (.istore 5) 2 19 := ⟨DJ2_indexOfSupplementary_4cfef_c0.2.2.2.2.2.2.2.2.1, rfl⟩
theorem dJ2_indexOfSupplementary_4cfef_19 : Dc cJ2_indexOfSupplementary_4cfef 19 (.iload_n 2) 1 20 := ⟨DJ2_indexOfSupplementary_4cfef_c0.2.2.2.2.2.2.2.2.2.1, rfl⟩
theorem dJ2_indexOfSupplementary_4cfef_20 : Dc cJ2_indexOfSupplementary_4cfef 20 (.iload_n 3) 1 21 := ⟨DJ2_indexOfSupplementary_4cfef_c0.2.2.2.2.2.2.2.2.2.2.1, rfl⟩
theorem dJ2_indexOfSupplementary_4cfef_21 : Dc cJ2_indexOfSupplementary_4cfef 21 (.aload_n 0) 1 22 := ⟨DJ2_indexOfSupplementary_4cfef_c0.2.2.2.2.2.2.2.2.2.2.2.1, rfl⟩
theorem dJ2_indexOfSupplementary_4cfef_22 : Dc cJ2_indexOfSupplementary_4cfef 22 (.invokestatic 96) 3 25 := ⟨DJ2_indexOfSupplementary_4cfef_c0.2.2.2.2.2.2.2.2.2.2.2.2.1, rfl⟩
theorem dJ2_indexOfSupplementary_4cfef_25 : Dc cJ2_indexOfSupplementary_4cfef 25 (.iload_n 2) 1 26 := ⟨DJ2_indexOfSupplementary_4cfef_c0.2.2.2.2.2.2.2.2.2.2.2.2.2.1, rfl⟩
theorem dJ2_indexOfSupplementary_4cfef_26 : Dc cJ2_indexOfSupplementary_4cfef 26 (.istore 6) 2 28 := ⟨DJ2_indexOfSupplementary_4cfef_c0.2.2.2.2.2.2.2.2.2.2.2.2.2.2.1, rfl⟩
theorem dJ2_indexOfSupplementary_4cfef_28 : Dc cJ2_indexOfSupplementary_4cfef 28 (.iload 6) 2 30 := ⟨DJ2_indexOfSupplementary_4cfef_c0.2.2.2.2.2.2.2.2.2.2.2.2.2.2.2, rfl⟩
theorem DJ2_indexOfSupplementary_4cfef_c1 : decode cJ2_indexOfSupplementary_4cfef 30 = .ok (.iload_n 3, 1) ∧ decode cJ2_indexOfSupplementary_4cfef 31 = .ok (.iconst 1, 1) ∧ decode cJ2_indexOfSupplementary_4cfef 32 = .ok (.isub, 1) ∧ decode cJ2_indexOfSupplementary_4cfef 33 = .ok (.if_icmp .ge 36, 3) ∧ decode cJ2_indexOfSupplementary_4cfef 36 = .ok (.aload_n 0, 1) ∧ decode cJ2_indexOfSupplementary_4cfef 37 = .ok (.iload 6, 2) ∧ decode cJ2_indexOfSupplementary_4cfef 39 = .ok (.invokestatic 71, 3) ∧ decode cJ2_indexOfSupplementary_4cfef 42 = .ok (.iload 4, 2) ∧ decode cJ2_indexOfSupplementary_4cfef 44 = .ok (.if_icmp .ne 19, 3) ∧ decode cJ2_indexOfSupplementary_4cfef 47 = .ok (.aload_n 0, 1) ∧ decode cJ2_indexOfSupplementary_4cfef 48 = .ok (.iload 6, 2) ∧ decode cJ2_indexOfSupplementary_4cfef 50 = .ok (.iconst 1, 1) ∧ decode cJ2_indexOfSupplementary_4cfef 51 = .ok (.iadd, 1) ∧ decode cJ2_indexOfSupplementary_4cfef 52 = .ok (.invokestatic 71, 3) ∧ decode cJ2_indexOfSupplementary_4cfef 55 = .ok (.iload 5, 2) ∧ decode cJ2_indexOfSupplementary_4cfef 57 = .ok (.if_icmp .ne 6, 3) := by decide +kernel
theorem dJ2_indexOfSupplementary_4cfef_30 : Dc cJ2_indexOfSupplementary_4cfef 30 (.iload_n 3) 1 31 := ⟨DJ2_indexOfSupplementary_4cfef_c1.1, rfl⟩
theorem dJ2_indexOfSupplementary_4cfef_31 : Dc cJ2_indexOfSupplementary_4cfef 31 (.iconst 1) 1 32 := ⟨DJ2_indexOfSupplementary_4cfef_c1.2.1, rfl⟩
theorem dJ2_indexOfSupplementary_4cfef_32 : Dc cJ2_indexOfSupplementary_4cfef 32 (.isub) 1 33 := ⟨DJ2_indexOfSupplementary_4cfef_c1.2.2.1, rfl⟩
theorem dJ2_indexOfSupplementary_4cfef_33 : Db cJ2_indexOfSupplementary_4cfef 33 (fun o => .if_icmp .ge o) 36 69 := ⟨36, DJ2_indexOfSupplementary_4cfef_c1.2.2.2.1, rfl, rfl⟩
theorem dJ2_indexOfSupplementary_4cfef_36 : Dc cJ2_indexOfSupplementary_4cfef 36 (.aload_n 0) 1 37 := ⟨DJ2_indexOfSupplementary_4cfef_c1.2.2.2.2.1, rfl⟩
theorem dJ2_indexOfSupplementary_4cfef_37 : Dc cJ2_indexOfSupplementary_4cfef 37 (.iload 6) 2 39 := ⟨DJ2_indexOfSupplementary_4cfef_c1.2.2.2.2.2.1, rfl⟩
theorem dJ2_indexOfSupplementary_4cfef_39 : Dc cJ2_indexOfSupplementary_4cfef 39 (.invokestatic 71) 3 42 := ⟨DJ2_indexOfSupplementary_4cfef_c1.2.2.2.2.2.2.1, rfl⟩
theorem dJ2_indexOfSupplementary_4cfef_42 : Dc cJ2_indexOfSupplementary_4cfef 42 (.iload 4) 2 44 := ⟨DJ2_indexOfSupplementary_4cfef_c1.2.2.2.2.2.2.2.1, rfl⟩
theorem dJ2_indexOfSupplementary_4cfef_44 : Db cJ2_indexOfSupplementary_4cfef 44 (fun o => .if_icmp .ne o) 47 63 := ⟨19, DJ2_indexOfSupplementary_4cfef_c1.2.2.2.2.2.2.2.2.1, rfl, rfl⟩
theorem dJ2_indexOfSupplementary_4cfef_47 : Dc cJ2_indexOfSupplementary_4cfef 47 (.aload_n 0) 1 48 := ⟨DJ2_indexOfSupplementary_4cfef_c1.2.2.2.2.2.2.2.2.2.1, rfl⟩
theorem dJ2_indexOfSupplementary_4cfef_48 : Dc cJ2_indexOfSupplementary_4cfef 48 (.iload 6) 2 50 := ⟨DJ2_indexOfSupplementary_4cfef_c1.2.2.2.2.2.2.2.2.2.2.1, rfl⟩
theorem dJ2_indexOfSupplementary_4cfef_50 : Dc cJ2_indexOfSupplementary_4cfef 50 (.iconst 1) 1 51 := ⟨DJ2_indexOfSupplementary_4cfef_c1.2.2.2.2.2.2.2.2.2.2.2.1, rfl⟩
theorem dJ2_indexOfSupplementary_4cfef_51 : Dc cJ2_indexOfSupplementary_4cfef 51 (.iadd) 1 52 := ⟨DJ2_indexOfSupplementary_4cfef_c1.2.2.2.2.2.2.2.2.2.2.2.2.1, rfl⟩
theorem dJ2_indexOfSupplementary_4cfef_52 : Dc cJ2_indexOfSupplementary_4cfef 52 (.invokestatic 71) 3 55 := ⟨DJ2_indexOfSupplementary_4cfef_c1.2.2.2.2.2.2.2.2.2.2.2.2.2.1, rfl⟩
theorem dJ2_indexOfSupplementary_4cfef_55 : Dc cJ2_indexOfSupplementary_4cfef 55 (.iload 5) 2 57 := ⟨DJ2_indexOfSupplementary_4cfef_c1.2.2.2.2.2.2.2.2.2.2.2.2.2.2.1, rfl⟩
theorem dJ2_indexOfSupplementary_4cfef_57 : Db cJ2_indexOfSupplementary_4cfef 57 (fun o => .if_icmp .ne o) 60 63 := ⟨6, DJ2_indexOfSupplementary_4cfef_c1.2.2.2.2.2.2.2.2.2.2.2.2.2.2.2, rfl, rfl⟩
theorem DJ2_indexOfSupplementary_4cfef_c2 : decode cJ2_indexOfSupplementary_4cfef 60 = .ok (.iload 6, 2) ∧ decode cJ2_indexOfSupplementary_4cfef 62 = .ok (.ireturn, 1) ∧ decode cJ2_indexOfSupplementary_4cfef 63 = .ok (.iinc 6 1, 3) ∧ decode cJ2_indexOfSupplementary_4cfef 66 = .ok (.goto (-38), 3) ∧ decode cJ2_indexOfSupplementary_4cfef 69 = .ok (.iconst (-1), 1) ∧ decode cJ2_indexOfSupplementary_4cfef 70 = .ok (.ireturn, 1) := by decide +kernel
theorem dJ2_indexOfSupplementary_4cfef_60 : Dc cJ2_indexOfSupplementary_4cfef 60 (.iload 6) 2 62 := ⟨DJ2_indexOfSupplementary_4cfef_c2.1, rfl⟩
theorem dJ2_indexOfSupplementary_4cfef_62 : Dc cJ2_indexOfSupplementary_4cfef 62 (.ireturn) 1 63 := ⟨DJ2_indexOfSupplementary_4cfef_c2.2.1, rfl⟩
theorem dJ2_indexOfSupplementary_4cfef_63 : Dc cJ2_indexOfSupplementary_4cfef 63 (.iinc 6 1) 3 66 := ⟨DJ2_indexOfSupplementary_4cfef_c2.2.2.1, rfl⟩
theorem dJ2_indexOfSupplementary_4cfef_66 : Db cJ2_indexOfSupplementary_4cfef 66 .goto 69 28 := ⟨-38, DJ2_indexOfSupplementary_4cfef_c2.2.2.2.1, rfl, rfl⟩
theorem dJ2_indexOfSupplementary_4cfef_69 : Dc cJ2_indexOfSupplementary_4cfef 69 (.iconst (-1)) 1 70 := ⟨DJ2_indexOfSupplementary_4cfef_c2.2.2.2.2.1, rfl⟩
theorem dJ2_indexOfSupplementary_4cfef_70 : Dc cJ2_indexOfSupplementary_4cfef 70 (.ireturn) 1 71 := ⟨DJ2_indexOfSupplementary_4cfef_c2.2.2.2.2.2, rfl⟩
theorem DJ2_checkBoundsBeginEnd_d044e_c0 : decode cJ2_checkBoundsBeginEnd_d044e 0 = .ok (.iload_n 0, 1) ∧ decode cJ2_checkBoundsBeginEnd_d044e 1 = .ok (.iload_n 1, 1) ∧ decode cJ2_checkBoundsBeginEnd_d044e 2 = .ok (.aload_n 2, 1) ∧ decode cJ2_checkBoundsBeginEnd_d044e 3 = .ok (.invokestatic 48, 3) ∧ decode cJ2_checkBoundsBeginEnd_d044e 6 = .ok (.invokestatic 241, 3) ∧ decode cJ2_checkBoundsBeginEnd_d044e 9 = .ok (.return_, 1) := by decide +kernel
theorem dJ2_checkBoundsBeginEnd_d044e_0 : Dc cJ2_checkBoundsBeginEnd_d044e 0 (.iload_n 0) 1 1 := ⟨DJ2_checkBoundsBeginEnd_d044e_c0.1, rfl⟩
theorem dJ2_checkBoundsBeginEnd_d044e_1 : Dc cJ2_checkBoundsBeginEnd_d044e 1 (.iload_n 1) 1 2 := ⟨DJ2_checkBoundsBeginEnd_d044e_c0.2.1, rfl⟩
theorem dJ2_checkBoundsBeginEnd_d044e_2 : Dc cJ2_checkBoundsBeginEnd_d044e 2 (.aload_n 2) 1 3 := ⟨DJ2_checkBoundsBeginEnd_d044e_c0.2.2.1, rfl⟩
theorem dJ2_checkBoundsBeginEnd_d044e_3 : Dc cJ2_checkBoundsBeginEnd_d044e 3 (.invokestatic 48) 3 6 := ⟨DJ2_checkBoundsBeginEnd_d044e_c0.2.2.2.1, rfl⟩
theorem dJ2_checkBoundsBeginEnd_d044e_6 : Dc cJ2_checkBoundsBeginEnd_d044e 6 (.invokestatic 241) 3 9 := ⟨DJ2_checkBoundsBeginEnd_d044e_c0.2.2.2.2.1, rfl⟩
theorem dJ2_checkBoundsBeginEnd_d044e_9 : Dc cJ2_checkBoundsBeginEnd_d044e 9 (.return_) 1 10 := ⟨DJ2_checkBoundsBeginEnd_d044e_c0.2.2.2.2.2, rfl⟩
theorem DJ3_checkFromToIndex_8c36e_c0 : decode cJ3_checkFromToIndex_8c36e 0 = .ok (.iload_n 0, 1) ∧ decode cJ3_checkFromToIndex_8c36e 1 = .ok (.ifCond .lt 13, 3) ∧ decode cJ3_checkFromToIndex_8c36e 4 = .ok (.iload_n 0, 1) ∧ decode cJ3_checkFromToIndex_8c36e 5 = .ok (.iload_n 1, 1) ∧ decode cJ3_checkFromToIndex_8c36e 6 = .ok (.if_icmp .gt 8, 3) ∧ decode cJ3_checkFromToIndex_8c36e 9 = .ok (.iload_n 1, 1) ∧ decode cJ3_checkFromToIndex_8c36e 10 = .ok (.iload_n 2, 1) ∧ decode cJ3_checkFromToIndex_8c36e 11 = .ok (.if_icmp .le 11, 3) ∧ decode cJ3_checkFromToIndex_8c36e 14 = .ok (.aload_n 3, 1) ∧ decode cJ3_checkFromToIndex_8c36e 15 = .ok (.iload_n 0, 1) ∧ decode cJ3_checkFromToIndex_8c36e 16 = .ok (.iload_n 1, 1) ∧ decode cJ3_checkFromToIndex_8c36e 17 = .ok (.iload_n 2, 1) ∧ decode cJ3_checkFromToIndex_8c36e 18 = .ok (.invokestatic 99, 3) ∧ decode cJ3_checkFromToIndex_8c36e 21 = .ok (.athrow, 1) ∧ decode cJ3_checkFromToIndex_8c36e 22 = .ok (.iload_n 0, 1) ∧ decode cJ3_checkFromToIndex_8c36e 23 = .ok (.ireturn, 1) := by decide +kernel
theorem dJ3_checkFromToIndex_8c36e_0 : Dc cJ3_checkFromToIndex_8c36e 0 (.iload_n 0) 1 1 := ⟨DJ3_checkFromToIndex_8c36e_c0.1, rfl⟩
theorem dJ3_checkFromToIndex_8c36e_1 : Db cJ3_checkFromToIndex_8c36e 1 (fun o => .ifCond .lt o) 4 14 := ⟨13, DJ3_checkFromToIndex_8c36e_c0.2.1, rfl, rfl⟩
theorem dJ3_checkFromToIndex_8c36e_4 : Dc cJ3_checkFromToIndex_8c36e 4 (.iload_n 0) 1 5 := ⟨DJ3_checkFromToIndex_8c36e_c0.2.2.1, rfl⟩
theorem dJ3_checkFromToIndex_8c36e_5 : Dc cJ3_checkFromToIndex_8c36e 5 (.iload_n 1) 1 6 := ⟨DJ3_checkFromToIndex_8c36e_c0.2.2.2.1, rfl⟩
theorem dJ3_checkFromToIndex_8c36e_6 : Db cJ3_checkFromToIndex_8c36e 6 (fun o => .if_icmp .gt o) 9 14 := ⟨8, DJ3_checkFromToIndex_8c36e_c0.2.2.2.2.1, rfl, rfl⟩
theorem dJ3_checkFromToIndex_8c36e_9 : Dc cJ3_checkFromToIndex_8c36e 9 (.iload_n 1) 1 10 := ⟨DJ3_checkFromToIndex_8c36e_c0.2.2.2.2.2.1, rfl⟩
theorem dJ3_checkFromToIndex_8c36e_10 : Dc cJ3_checkFromToIndex_8c36e 10 (.iload_n 2) 1 11 := ⟨DJ3_checkFromToIndex_8c36e_c0.2.2.2.2.2.2.1, rfl⟩
theorem dJ3_checkFromToIndex_8c36e_11 : Db cJ3_checkFromToIndex_8c36e 11 (fun o => .if_icmp .le o) 14 22 := ⟨11, DJ3_checkFromToIndex_8c36e_c0.2.2.2.2.2.2.2.1, rfl, rfl⟩
theorem dJ3_checkFromToIndex_8c36e_14 : Dc cJ3_checkFromToIndex_8c36e 14 (.aload_n 3) 1 15 := ⟨DJ3_checkFromToIndex_8c36e_c0.2.2.2.2.2.2.2.2.1, rfl⟩
theorem dJ3_checkFromToIndex_8c36e_15 : Dc cJ3_checkFromToIndex_8c36e 15 (.iload_n 0) 1 16 := ⟨DJ3_checkFromToIndex_8c36e_c0.2.2.2.2.2.2.2.2.2.1, rfl⟩
theorem dJ3_checkFromToIndex_8c36e_16 : Dc cJ3_checkFromToIndex_8c36e 16 (.iload_n 1) 1 17 := ⟨DJ3_checkFromToIndex_8c36e_c0.2.2.2.2.2.2.2.2.2.2.1, rfl⟩
theorem dJ3_checkFromToIndex_8c36e_17 : Dc cJ3_checkFromToIndex_8c36e 17 (.iload_n 2) 1 18 := ⟨DJ3_checkFromToIndex_8c36e_c0.2.2.2.2.2.2.2.2.2.2.2.1, rfl⟩
theorem dJ3_checkFromToIndex_8c36e_18 : Dc cJ3_checkFromToIndex_8c36e 18 (.invokestatic 99) 3 21 := ⟨DJ3_checkFromToIndex_8c36e_c0.2.2.2.2.2.2.2.2.2.2.2.2.1, rfl⟩
theorem dJ3_checkFromToIndex_8c36e_21 : Dc cJ3_checkFromToIndex_8c36e 21 (.athrow) 1 22 := ⟨DJ3_checkFromToIndex_8c36e_c0.2.2.2.2.2.2.2.2.2.2.2.2.2.1, rfl⟩
theorem dJ3_checkFromToIndex_8c36e_22 : Dc cJ3_checkFromToIndex_8c36e 22 (.iload_n 0) 1 23 := ⟨DJ3_checkFromToIndex_8c36e_c0.2.2.2.2.2.2.2.2.2.2.2.2.2.2.1, rfl⟩
theorem dJ3_checkFromToIndex_8c36e_23 : Dc cJ3_checkFromToIndex_8c36e 23 (.ireturn) 1 24 := ⟨DJ3_checkFromToIndex_8c36e_c0.2.2.2.2.2.2.2.2.2.2.2.2.2.2.2, rfl⟩
