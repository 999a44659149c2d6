theorem DL_law_c0 : decode cL_law 0 = .ok (.new 7, 3) ∧ decode cL_law 3 = .ok (.dup, 1) ∧ decode cL_law 4 = .ok (.invokespecial 9, 3) ∧ decode cL_law 7 = .ok (.astore_n 1, 1) ∧ decode cL_law 8 = .ok (.new 10, 3) ∧ decode cL_law 11 = .ok (.dup, 1) ∧ decode cL_law 12 = .ok (.invokespecial 12, 3) ∧ decode cL_law 15 = .ok (.astore_n 2, 1) ∧ decode cL_law 16 = .ok (.iconst 0, 1) ∧ decode cL_law 17 = .ok (.istore_n 3, 1) ∧ decode cL_law 18 = .ok (.iload_n 3, 1) ∧ decode cL_law 19 = .ok (.aload_n 0, 1) ∧ decode cL_law 20 = .ok (.arraylength, 1) ∧ decode cL_law 21 = .ok (.iconst 4, 1) ∧ decode cL_law 22 = .ok (.isub, 1) ∧ decode cL_law 23 = .ok (.if_icmp .gt 815, 3) := by decide +kernel
theorem dL_law_0 : Dc cL_law 0 (.new 7) 3 3 := ⟨DL_law_c0.1, rfl⟩
theorem dL_law_3 : Dc cL_law 3 (.dup) 1 4 := ⟨DL_law_c0.2.1, rfl⟩
theorem dL_law_4 : Dc cL_law 4 (.invokespecial 9) 3 7 := ⟨DL_law_c0.2.2.1, rfl⟩
theorem dL_law_7 : Dc cL_law 7 (.astore_n 1) 1 8 := ⟨DL_law_c0.2.2.2.1, rfl⟩
theorem dL_law_8 : Dc cL_law 8 (.new 10) 3 11 := ⟨DL_law_c0.2.2.2.2.1, rfl⟩
theorem dL_law_11 : Dc cL_law 11 (.dup) 1 12 := ⟨DL_law_c0.2.2.2.2.2.1, rfl⟩
theorem dL_law_12 : Dc cL_law 12 (.invokespecial 12) 3 15 := ⟨DL_law_c0.2.2.2.2.2.2.1, rfl⟩
theorem dL_law_15 : Dc cL_law 15 (.astore_n 2) 1 16 := ⟨DL_law_c0.2.2.2.2.2.2.2.1, rfl⟩
theorem dL_law_16 : Dc cL_law 16 (.iconst 0) 1 17 := ⟨DL_law_c0.2.2.2.2.2.2.2.2.1, rfl⟩
theorem dL_law_17 : Dc cL_law 17 (.istore_n 3) 1 18 := ⟨DL_law_c0.2.2.2.2.2.2.2.2.2.1, rfl⟩
theorem dL_law_18 : Dc cL_law 18 (.iload_n 3) 1 19 := ⟨DL_law_c0.2.2.2.2.2.2.2.2.2.2.1, rfl⟩
theorem dL_law_19 : Dc cL_law 19 (.aload_n 0) 1 20 := ⟨DL_law_c0.2.2.2.2.2.2.2.2.2.2.2.1, rfl⟩
theorem dL_law_20 : Dc cL_law 20 (.arraylength) 1 21 := ⟨DL_law_c0.2.2.2.2.2.2.2.2.2.2.2.2.1, rfl⟩
theorem dL_law_21 : Dc cL_law 21 (.iconst 4) 1 22 := ⟨DL_law_c0.2.2.2.2.2.2.2.2.2.2.2.2.2.1, rfl⟩
theorem dL_law_22 : Dc cL_law 22 (.isub) 1 23 := ⟨DL_law_c0.2.2.2.2.2.2.2.2.2.2.2.2.2.2.1, rfl⟩
theorem dL_law_23 : Db cL_law 23 (fun o => .if_icmp .gt o) 26 838 := ⟨815, DL_law_c0.2.2.2.2.2.2.2.2.2.2.2.2.2.2.2, rfl, rfl⟩
theorem DL_law_c1 : decode cL_law 26 = .ok (.aload_n 0, 1) ∧ decode cL_law 27 = .ok (.iload_n 3, 1) ∧ decode cL_law 28 = .ok (.iaload, 1) ∧ decode cL_law 29 = .ok (.bipush 31, 2) ∧ decode cL_law 31 = .ok (.iand, 1) ∧ decode cL_law 32 = .ok (.tableswitch 800 0 25 #[120, 153, 166, 179, 202, 235, 258, 291, 314, 337, 362, 375, 388, 401, 414, 427, 450, 493, 536, 569, 592, 635, 658, 691, 714, 757], 120) ∧ decode cL_law 152 = .ok (.aload_n 1, 1) ∧ decode cL_law 153 = .ok (.aload_n 0, 1) ∧ decode cL_law 154 = .ok (.iload_n 3, 1) ∧ decode cL_law 155 = .ok (.iconst 1, 1) ∧ decode cL_law 156 = .ok (.iadd, 1) ∧ decode cL_law 157 = .ok (.iaload, 1) ∧ decode cL_law 158 = .ok (.aload_n 0, 1) ∧ decode cL_law 159 = .ok (.iload_n 3, 1) ∧ decode cL_law 160 = .ok (.iconst 2, 1) ∧ decode cL_law 161 = .ok (.iadd, 1) := by decide +kernel
theorem dL_law_26 : Dc cL_law 26 (.aload_n 0) 1 27 := ⟨DL_law_c1.1, rfl⟩
theorem dL_law_27 : Dc cL_law 27 (.iload_n 3) 1 28 := ⟨DL_law_c1.2.1, rfl⟩
theorem dL_law_28 : Dc cL_law 28 (.iaload) 1 29 := ⟨DL_law_c1.2.2.1, rfl⟩
theorem dL_law_29 : Dc cL_law 29 (.bipush 31) 2 31 := ⟨DL_law_c1.2.2.2.1, rfl⟩
theorem dL_law_31 : Dc cL_law 31 (.iand) 1 32 := ⟨DL_law_c1.2.2.2.2.1, rfl⟩
theorem dL_law_32 : decode cL_law 32 = .ok (.tableswitch 800 0 25 #[120, 153, 166, 179, 202, 235, 258, 291, 314, 337, 362, 375, 388, 401, 414, 427, 450, 493, 536, 569, 592, 635, 658, 691, 714, 757], 120) := DL_law_c1.2.2.2.2.2.1
theorem dL_law_152 : Dc cL_law 152 (.aload_n 1) 1 153 := ⟨DL_law_c1.2.2.2.2.2.2.1, rfl⟩
theorem dL_law_153 : Dc cL_law 153 (.aload_n 0) 1 154 := ⟨DL_law_c1.2.2.2.2.2.2.2.1, rfl⟩
theorem dL_law_154 : Dc cL_law 154 (.iload_n 3) 1 155 := ⟨DL_law_c1.2.2.2.2.2.2.2.2.1, rfl⟩
theorem dL_law_155 : Dc cL_law 155 (.iconst 1) 1 156 := ⟨DL_law_c1.2.2.2.2.2.2.2.2.2.1, rfl⟩
theorem dL_law_156 : Dc cL_law 156 (.iadd) 1 157 := ⟨DL_law_c1.2.2.2.2.2.2.2.2.2.2.1, rfl⟩
theorem dL_law_157 : Dc cL_law 157 (.iaload) 1 158 := ⟨DL_law_c1.2.2.2.2.2.2.2.2.2.2.2.1, rfl⟩
theorem dL_law_158 : Dc cL_law 158 (.aload_n 0) 1 159 := ⟨DL_law_c1.2.2.2.2.2.2.2.2.2.2.2.2.1, rfl⟩
theorem dL_law_159 : Dc cL_law 159 (.iload_n 3) 1 160 := ⟨DL_law_c1.2.2.2.2.2.2.2.2.2.2.2.2.2.1, rfl⟩
theorem dL_law_160 : Dc cL_law 160 (.iconst 2) 1 161 := ⟨DL_law_c1.2.2.2.2.2.2.2.2.2.2.2.2.2.2.1, rfl⟩
theorem dL_law_161 : Dc cL_law 161 (.iadd) 1 162 := ⟨DL_law_c1.2.2.2.2.2.2.2.2.2.2.2.2.2.2.2, rfl⟩
theorem DL_law_c2 : decode cL_law 162 = .ok (.iaload, 1) ∧ decode cL_law 163 = .ok (.invokevirtual 13, 3) ∧ decode cL_law 166 = .ok (.aload_n 2, 1) ∧ decode cL_law 167 = .ok (.aload_n 0, 1) ∧ decode cL_law 168 = .ok (.iload_n 3, 1) ∧ decode cL_law 169 = .ok (.iconst 1, 1) ∧ decode cL_law 170 = .ok (.iadd, 1) ∧ decode cL_law 171 = .ok (.iaload, 1) ∧ decode cL_law 172 = .ok (.aload_n 0, 1) ∧ decode cL_law 173 = .ok (.iload_n 3, 1) ∧ decode cL_law 174 = .ok (.iconst 2, 1) ∧ decode cL_law 175 = .ok (.iadd, 1) ∧ decode cL_law 176 = .ok (.iaload, 1) ∧ decode cL_law 177 = .ok (.invokevirtual 17, 3) ∧ decode cL_law 180 = .ok (.if_icmp .eq 652, 3) ∧ decode cL_law 183 = .ok (.iconst 0, 1) := by decide +kernel
theorem dL_law_162 : Dc cL_law 162 (.iaload) 1 163 := ⟨DL_law_c2.1, rfl⟩
theorem dL_law_163 : Dc cL_law 163 (.invokevirtual 13) 3 166 := ⟨DL_law_c2.2.1, rfl⟩
theorem dL_law_166 : Dc cL_law 166 (.aload_n 2) 1 167 := ⟨DL_law_c2.2.2.1, rfl⟩
theorem dL_law_167 : Dc cL_law 167 (.aload_n 0) 1 168 := ⟨DL_law_c2.2.2.2.1, rfl⟩
theorem dL_law_168 : Dc cL_law 168 (.iload_n 3) 1 169 := ⟨DL_law_c2.2.2.2.2.1, rfl⟩
theorem dL_law_169 : Dc cL_law 169 (.iconst 1) 1 170 := ⟨DL_law_c2.2.2.2.2.2.1, rfl⟩
theorem dL_law_170 : Dc cL_law 170 (.iadd) 1 171 := ⟨DL_law_c2.2.2.2.2.2.2.1, rfl⟩
theorem dL_law_171 : Dc cL_law 171 (.iaload) 1 172 := ⟨DL_law_c2.2.2.2.2.2.2.2.1, rfl⟩
theorem dL_law_172 : Dc cL_law 172 (.aload_n 0) 1 173 := ⟨DL_law_c2.2.2.2.2.2.2.2.2.1, rfl⟩
theorem dL_law_173 : Dc cL_law 173 (.iload_n 3) 1 174 := ⟨DL_law_c2.2.2.2.2.2.2.2.2.2.1, rfl⟩
theorem dL_law_174 : Dc cL_law 174 (.iconst 2) 1 175 := ⟨DL_law_c2.2.2.2.2.2.2.2.2.2.2.1, rfl⟩
theorem dL_law_175 : Dc cL_law 175 (.iadd) 1 176 := ⟨DL_law_c2.2.2.2.2.2.2.2.2.2.2.2.1, rfl⟩
theorem dL_law_176 : Dc cL_law 176 (.iaload) 1 177 := ⟨DL_law_c2.2.2.2.2.2.2.2.2.2.2.2.2.1, rfl⟩
theorem dL_law_177 : Dc cL_law 177 (.invokevirtual 17) 3 180 := ⟨DL_law_c2.2.2.2.2.2.2.2.2.2.2.2.2.2.1, rfl⟩
theorem dL_law_180 : Db cL_law 180 (fun o => .if_icmp .eq o) 183 832 := ⟨652, DL_law_c2.2.2.2.2.2.2.2.2.2.2.2.2.2.2.1, rfl, rfl⟩
theorem dL_law_183 : Dc cL_law 183 (.iconst 0) 1 184 := ⟨DL_law_c2.2.2.2.2.2.2.2.2.2.2.2.2.2.2.2, rfl⟩
theorem DL_law_c3 : decode cL_law 184 = .ok (.ireturn, 1) ∧ decode cL_law 185 = .ok (.aload_n 1, 1) ∧ decode cL_law 186 = .ok (.invokevirtual 18, 3) ∧ decode cL_law 189 = .ok (.aload_n 2, 1) ∧ decode cL_law 190 = .ok (.invokevirtual 22, 3) ∧ decode cL_law 193 = .ok (.if_icmp .eq 639, 3) ∧ decode cL_law 196 = .ok (.iconst 0, 1) ∧ decode cL_law 197 = .ok (.ireturn, 1) ∧ decode cL_law 198 = .ok (.aload_n 1, 1) ∧ decode cL_law 199 = .ok (.invokevirtual 23, 3) ∧ decode cL_law 202 = .ok (.aload_n 2, 1) ∧ decode cL_law 203 = .ok (.invokevirtual 26, 3) ∧ decode cL_law 206 = .ok (.if_icmp .eq 626, 3) ∧ decode cL_law 209 = .ok (.iconst 0, 1) ∧ decode cL_law 210 = .ok (.ireturn, 1) ∧ decode cL_law 211 = .ok (.aload_n 1, 1) := by decide +kernel
theorem dL_law_184 : Dc cL_law 184 (.ireturn) 1 185 := ⟨DL_law_c3.1, rfl⟩
theorem dL_law_185 : Dc cL_law 185 (.aload_n 1) 1 186 := ⟨DL_law_c3.2.1, rfl⟩
theorem dL_law_186 : Dc cL_law 186 (.invokevirtual 18) 3 189 := ⟨DL_law_c3.2.2.1, rfl⟩
theorem dL_law_189 : Dc cL_law 189 (.aload_n 2) 1 190 := ⟨DL_law_c3.2.2.2.1, rfl⟩
theorem dL_law_190 : Dc cL_law 190 (.invokevirtual 22) 3 193 := ⟨DL_law_c3.2.2.2.2.1, rfl⟩
theorem dL_law_193 : Db cL_law 193 (fun o => .if_icmp .eq o) 196 832 := ⟨639, DL_law_c3.2.2.2.2.2.1, rfl, rfl⟩
theorem dL_law_196 : Dc cL_law 196 (.iconst 0) 1 197 := ⟨DL_law_c3.2.2.2.2.2.2.1, rfl⟩
theorem dL_law_197 : Dc cL_law 197 (.ireturn) 1 198 := ⟨DL_law_c3.2.2.2.2.2.2.2.1, rfl⟩
theorem dL_law_198 : Dc cL_law 198 (.aload_n 1) 1 199 := ⟨DL_law_c3.2.2.2.2.2.2.2.2.1, rfl⟩
theorem dL_law_199 : Dc cL_law 199 (.invokevirtual 23) 3 202 := ⟨DL_law_c3.2.2.2.2.2.2.2.2.2.1, rfl⟩
theorem dL_law_202 : Dc cL_law 202 (.aload_n 2) 1 203 := ⟨DL_law_c3.2.2.2.2.2.2.2.2.2.2.1, rfl⟩
theorem dL_law_203 : Dc cL_law 203 (.invokevirtual 26) 3 206 := ⟨DL_law_c3.2.2.2.2.2.2.2.2.2.2.2.1, rfl⟩
theorem dL_law_206 : Db cL_law 206 (fun o => .if_icmp .eq o) 209 832 := ⟨626, DL_law_c3.2.2.2.2.2.2.2.2.2.2.2.2.1, rfl, rfl⟩
theorem dL_law_209 : Dc cL_law 209 (.iconst 0) 1 210 := ⟨DL_law_c3.2.2.2.2.2.2.2.2.2.2.2.2.2.1, rfl⟩
theorem dL_law_210 : Dc cL_law 210 (.ireturn) 1 211 := ⟨DL_law_c3.2.2.2.2.2.2.2.2.2.2.2.2.2.2.1, rfl⟩
theorem dL_law_211 : Dc cL_law 211 (.aload_n 1) 1 212 := ⟨DL_law_c3.2.2.2.2.2.2.2.2.2.2.2.2.2.2.2, rfl⟩
theorem DL_law_c4 : decode cL_law 212 = .ok (.aload_n 0, 1) ∧ decode cL_law 213 = .ok (.iload_n 3, 1) ∧ decode cL_law 214 = .ok (.iconst 1, 1) ∧ decode cL_law 215 = .ok (.iadd, 1) ∧ decode cL_law 216 = .ok (.iaload, 1) ∧ decode cL_law 217 = .ok (.invokevirtual 27, 3) ∧ decode cL_law 220 = .ok (.aload_n 2, 1) ∧ decode cL_law 221 = .ok (.aload_n 0, 1) ∧ decode cL_law 222 = .ok (.iload_n 3, 1) ∧ decode cL_law 223 = .ok (.iconst 1, 1) ∧ decode cL_law 224 = .ok (.iadd, 1) ∧ decode cL_law 225 = .ok (.iaload, 1) ∧ decode cL_law 226 = .ok (.invokevirtual 31, 3) ∧ decode cL_law 229 = .ok (.if_icmp .eq 603, 3) ∧ decode cL_law 232 = .ok (.iconst 0, 1) ∧ decode cL_law 233 = .ok (.ireturn, 1) := by decide +kernel
theorem dL_law_212 : Dc cL_law 212 (.aload_n 0) 1 213 := ⟨DL_law_c4.1, rfl⟩
theorem dL_law_213 : Dc cL_law 213 (.iload_n 3) 1 214 := ⟨DL_law_c4.2.1, rfl⟩
theorem dL_law_214 : Dc cL_law 214 (.iconst 1) 1 215 := ⟨DL_law_c4.2.2.1, rfl⟩
theorem dL_law_215 : Dc cL_law 215 (.iadd) 1 216 := ⟨DL_law_c4.2.2.2.1, rfl⟩
theorem dL_law_216 : Dc cL_law 216 (.iaload) 1 217 := ⟨DL_law_c4.2.2.2.2.1, rfl⟩
theorem dL_law_217 : Dc cL_law 217 (.invokevirtual 27) 3 220 := ⟨DL_law_c4.2.2.2.2.2.1, rfl⟩
theorem dL_law_220 : Dc cL_law 220 (.aload_n 2) 1 221 := ⟨DL_law_c4.2.2.2.2.2.2.1, rfl⟩
theorem dL_law_221 : Dc cL_law 221 (.aload_n 0) 1 222 := ⟨DL_law_c4.2.2.2.2.2.2.2.1, rfl⟩
theorem dL_law_222 : Dc cL_law 222 (.iload_n 3) 1 223 := ⟨DL_law_c4.2.2.2.2.2.2.2.2.1, rfl⟩
theorem dL_law_223 : Dc cL_law 223 (.iconst 1) 1 224 := ⟨DL_law_c4.2.2.2.2.2.2.2.2.2.1, rfl⟩
theorem dL_law_224 : Dc cL_law 224 (.iadd) 1 225 := ⟨DL_law_c4.2.2.2.2.2.2.2.2.2.2.1, rfl⟩
theorem dL_law_225 : Dc cL_law 225 (.iaload) 1 226 := ⟨DL_law_c4.2.2.2.2.2.2.2.2.2.2.2.1, rfl⟩
theorem dL_law_226 : Dc cL_law 226 (.invokevirtual 31) 3 229 := ⟨DL_law_c4.2.2.2.2.2.2.2.2.2.2.2.2.1, rfl⟩
theorem dL_law_229 : Db cL_law 229 (fun o => .if_icmp .eq o) 232 832 := ⟨603, DL_law_c4.2.2.2.2.2.2.2.2.2.2.2.2.2.1, rfl, rfl⟩
theorem dL_law_232 : Dc cL_law 232 (.iconst 0) 1 233 := ⟨DL_law_c4.2.2.2.2.2.2.2.2.2.2.2.2.2.2.1, rfl⟩
theorem dL_law_233 : Dc cL_law 233 (.ireturn) 1 234 := ⟨DL_law_c4.2.2.2.2.2.2.2.2.2.2.2.2.2.2.2, rfl⟩
theorem DL_law_c5 : decode cL_law 234 = .ok (.aload_n 1, 1) ∧ decode cL_law 235 = .ok (.aload_n 0, 1) ∧ decode cL_law 236 = .ok (.iload_n 3, 1) ∧ decode cL_law 237 = .ok (.iconst 1, 1) ∧ decode cL_law 238 = .ok (.iadd, 1) ∧ decode cL_law 239 = .ok (.iaload, 1) ∧ decode cL_law 240 = .ok (.aload_n 0, 1) ∧ decode cL_law 241 = .ok (.iload_n 3, 1) ∧ decode cL_law 242 = .ok (.iconst 2, 1) ∧ decode cL_law 243 = .ok (.iadd, 1) ∧ decode cL_law 244 = .ok (.iaload, 1) ∧ decode cL_law 245 = .ok (.invokevirtual 32, 3) ∧ decode cL_law 248 = .ok (.aload_n 2, 1) ∧ decode cL_law 249 = .ok (.aload_n 0, 1) ∧ decode cL_law 250 = .ok (.iload_n 3, 1) ∧ decode cL_law 251 = .ok (.iconst 1, 1) := by decide +kernel
theorem dL_law_234 : Dc cL_law 234 (.aload_n 1) 1 235 := ⟨DL_law_c5.1, rfl⟩
theorem dL_law_235 : Dc cL_law 235 (.aload_n 0) 1 236 := ⟨DL_law_c5.2.1, rfl⟩
theorem dL_law_236 : Dc cL_law 236 (.iload_n 3) 1 237 := ⟨DL_law_c5.2.2.1, rfl⟩
theorem dL_law_237 : Dc cL_law 237 (.iconst 1) 1 238 := ⟨DL_law_c5.2.2.2.1, rfl⟩
theorem dL_law_238 : Dc cL_law 238 (.iadd) 1 239 := ⟨DL_law_c5.2.2.2.2.1, rfl⟩
theorem dL_law_239 : Dc cL_law 239 (.iaload) 1 240 := ⟨DL_law_c5.2.2.2.2.2.1, rfl⟩
theorem dL_law_240 : Dc cL_law 240 (.aload_n 0) 1 241 := ⟨DL_law_c5.2.2.2.2.2.2.1, rfl⟩
theorem dL_law_241 : Dc cL_law 241 (.iload_n 3) 1 242 := ⟨DL_law_c5.2.2.2.2.2.2.2.1, rfl⟩
theorem dL_law_242 : Dc cL_law 242 (.iconst 2) 1 243 := ⟨DL_law_c5.2.2.2.2.2.2.2.2.1, rfl⟩
theorem dL_law_243 : Dc cL_law 243 (.iadd) 1 244 := ⟨DL_law_c5.2.2.2.2.2.2.2.2.2.1, rfl⟩
theorem dL_law_244 : Dc cL_law 244 (.iaload) 1 245 := ⟨DL_law_c5.2.2.2.2.2.2.2.2.2.2.1, rfl⟩
theorem dL_law_245 : Dc cL_law 245 (.invokevirtual 32) 3 248 := ⟨DL_law_c5.2.2.2.2.2.2.2.2.2.2.2.1, rfl⟩
theorem dL_law_248 : Dc cL_law 248 (.aload_n 2) 1 249 := ⟨DL_law_c5.2.2.2.2.2.2.2.2.2.2.2.2.1, rfl⟩
theorem dL_law_249 : Dc cL_law 249 (.aload_n 0) 1 250 := ⟨DL_law_c5.2.2.2.2.2.2.2.2.2.2.2.2.2.1, rfl⟩
theorem dL_law_250 : Dc cL_law 250 (.iload_n 3) 1 251 := ⟨DL_law_c5.2.2.2.2.2.2.2.2.2.2.2.2.2.2.1, rfl⟩
theorem dL_law_251 : Dc cL_law 251 (.iconst 1) 1 252 := ⟨DL_law_c5.2.2.2.2.2.2.2.2.2.2.2.2.2.2.2, rfl⟩
theorem DL_law_c6 : decode cL_law 252 = .ok (.iadd, 1) ∧ decode cL_law 253 = .ok (.iaload, 1) ∧ decode cL_law 254 = .ok (.aload_n 0, 1) ∧ decode cL_law 255 = .ok (.iload_n 3, 1) ∧ decode cL_law 256 = .ok (.iconst 2, 1) ∧ decode cL_law 257 = .ok (.iadd, 1) ∧ decode cL_law 258 = .ok (.iaload, 1) ∧ decode cL_law 259 = .ok (.invokevirtual 35, 3) ∧ decode cL_law 262 = .ok (.if_icmp .eq 570, 3) ∧ decode cL_law 265 = .ok (.iconst 0, 1) ∧ decode cL_law 266 = .ok (.ireturn, 1) ∧ decode cL_law 267 = .ok (.aload_n 1, 1) ∧ decode cL_law 268 = .ok (.aload_n 0, 1) ∧ decode cL_law 269 = .ok (.iload_n 3, 1) ∧ decode cL_law 270 = .ok (.iconst 1, 1) ∧ decode cL_law 271 = .ok (.iadd, 1) := by decide +kernel
theorem dL_law_252 : Dc cL_law 252 (.iadd) 1 253 := ⟨DL_law_c6.1, rfl⟩
theorem dL_law_253 : Dc cL_law 253 (.iaload) 1 254 := ⟨DL_law_c6.2.1, rfl⟩
theorem dL_law_254 : Dc cL_law 254 (.aload_n 0) 1 255 := ⟨DL_law_c6.2.2.1, rfl⟩
theorem dL_law_255 : Dc cL_law 255 (.iload_n 3) 1 256 := ⟨DL_law_c6.2.2.2.1, rfl⟩
theorem dL_law_256 : Dc cL_law 256 (.iconst 2) 1 257 := ⟨DL_law_c6.2.2.2.2.1, rfl⟩
theorem dL_law_257 : Dc cL_law 257 (.iadd) 1 258 := ⟨DL_law_c6.2.2.2.2.2.1, rfl⟩
theorem dL_law_258 : Dc cL_law 258 (.iaload) 1 259 := ⟨DL_law_c6.2.2.2.2.2.2.1, rfl⟩
theorem dL_law_259 : Dc cL_law 259 (.invokevirtual 35) 3 262 := ⟨DL_law_c6.2.2.2.2.2.2.2.1, rfl⟩
theorem dL_law_262 : Db cL_law 262 (fun o => .if_icmp .eq o) 265 832 := ⟨570, DL_law_c6.2.2.2.2.2.2.2.2.1, rfl, rfl⟩
theorem dL_law_265 : Dc cL_law 265 (.iconst 0) 1 266 := ⟨DL_law_c6.2.2.2.2.2.2.2.2.2.1, rfl⟩
theorem dL_law_266 : Dc cL_law 266 (.ireturn) 1 267 := ⟨DL_law_c6.2.2.2.2.2.2.2.2.2.2.1, rfl⟩
theorem dL_law_267 : Dc cL_law 267 (.aload_n 1) 1 268 := ⟨DL_law_c6.2.2.2.2.2.2.2.2.2.2.2.1, rfl⟩
theorem dL_law_268 : Dc cL_law 268 (.aload_n 0) 1 269 := ⟨DL_law_c6.2.2.2.2.2.2.2.2.2.2.2.2.1, rfl⟩
theorem dL_law_269 : Dc cL_law 269 (.iload_n 3) 1 270 := ⟨DL_law_c6.2.2.2.2.2.2.2.2.2.2.2.2.2.1, rfl⟩
theorem dL_law_270 : Dc cL_law 270 (.iconst 1) 1 271 := ⟨DL_law_c6.2.2.2.2.2.2.2.2.2.2.2.2.2.2.1, rfl⟩
theorem dL_law_271 : Dc cL_law 271 (.iadd) 1 272 := ⟨DL_law_c6.2.2.2.2.2.2.2.2.2.2.2.2.2.2.2, rfl⟩
theorem DL_law_c7 : decode cL_law 272 = .ok (.iaload, 1) ∧ decode cL_law 273 = .ok (.invokevirtual 36, 3) ∧ decode cL_law 276 = .ok (.aload_n 2, 1) ∧ decode cL_law 277 = .ok (.aload_n 0, 1) ∧ decode cL_law 278 = .ok (.iload_n 3, 1) ∧ decode cL_law 279 = .ok (.iconst 1, 1) ∧ decode cL_law 280 = .ok (.iadd, 1) ∧ decode cL_law 281 = .ok (.iaload, 1) ∧ decode cL_law 282 = .ok (.invokevirtual 39, 3) ∧ decode cL_law 285 = .ok (.if_icmp .eq 547, 3) ∧ decode cL_law 288 = .ok (.iconst 0, 1) ∧ decode cL_law 289 = .ok (.ireturn, 1) ∧ decode cL_law 290 = .ok (.aload_n 1, 1) ∧ decode cL_law 291 = .ok (.aload_n 0, 1) ∧ decode cL_law 292 = .ok (.iload_n 3, 1) ∧ decode cL_law 293 = .ok (.iconst 1, 1) := by decide +kernel
theorem dL_law_272 : Dc cL_law 272 (.iaload) 1 273 := ⟨DL_law_c7.1, rfl⟩
theorem dL_law_273 : Dc cL_law 273 (.invokevirtual 36) 3 276 := ⟨DL_law_c7.2.1, rfl⟩
theorem dL_law_276 : Dc cL_law 276 (.aload_n 2) 1 277 := ⟨DL_law_c7.2.2.1, rfl⟩
theorem dL_law_277 : Dc cL_law 277 (.aload_n 0) 1 278 := ⟨DL_law_c7.2.2.2.1, rfl⟩
theorem dL_law_278 : Dc cL_law 278 (.iload_n 3) 1 279 := ⟨DL_law_c7.2.2.2.2.1, rfl⟩
theorem dL_law_279 : Dc cL_law 279 (.iconst 1) 1 280 := ⟨DL_law_c7.2.2.2.2.2.1, rfl⟩
theorem dL_law_280 : Dc cL_law 280 (.iadd) 1 281 := ⟨DL_law_c7.2.2.2.2.2.2.1, rfl⟩
theorem dL_law_281 : Dc cL_law 281 (.iaload) 1 282 := ⟨DL_law_c7.2.2.2.2.2.2.2.1, rfl⟩
theorem dL_law_282 : Dc cL_law 282 (.invokevirtual 39) 3 285 := ⟨DL_law_c7.2.2.2.2.2.2.2.2.1, rfl⟩
theorem dL_law_285 : Db cL_law 285 (fun o => .if_icmp .eq o) 288 832 := ⟨547, DL_law_c7.2.2.2.2.2.2.2.2.2.1, rfl, rfl⟩
theorem dL_law_288 : Dc cL_law 288 (.iconst 0) 1 289 := ⟨DL_law_c7.2.2.2.2.2.2.2.2.2.2.1, rfl⟩
theorem dL_law_289 : Dc cL_law 289 (.ireturn) 1 290 := ⟨DL_law_c7.2.2.2.2.2.2.2.2.2.2.2.1, rfl⟩
theorem dL_law_290 : Dc cL_law 290 (.aload_n 1) 1 291 := ⟨DL_law_c7.2.2.2.2.2.2.2.2.2.2.2.2.1, rfl⟩
theorem dL_law_291 : Dc cL_law 291 (.aload_n 0) 1 292 := ⟨DL_law_c7.2.2.2.2.2.2.2.2.2.2.2.2.2.1, rfl⟩
theorem dL_law_292 : Dc cL_law 292 (.iload_n 3) 1 293 := ⟨DL_law_c7.2.2.2.2.2.2.2.2.2.2.2.2.2.2.1, rfl⟩
theorem dL_law_293 : Dc cL_law 293 (.iconst 1) 1 294 := ⟨DL_law_c7.2.2.2.2.2.2.2.2.2.2.2.2.2.2.2, rfl⟩
theorem DL_law_c8 : decode cL_law 294 = .ok (.iadd, 1) ∧ decode cL_law 295 = .ok (.iaload, 1) ∧ decode cL_law 296 = .ok (.aload_n 0, 1) ∧ decode cL_law 297 = .ok (.iload_n 3, 1) ∧ decode cL_law 298 = .ok (.iconst 2, 1) ∧ decode cL_law 299 = .ok (.iadd, 1) ∧ decode cL_law 300 = .ok (.iaload, 1) ∧ decode cL_law 301 = .ok (.invokevirtual 40, 3) ∧ decode cL_law 304 = .ok (.aload_n 2, 1) ∧ decode cL_law 305 = .ok (.aload_n 0, 1) ∧ decode cL_law 306 = .ok (.iload_n 3, 1) ∧ decode cL_law 307 = .ok (.iconst 1, 1) ∧ decode cL_law 308 = .ok (.iadd, 1) ∧ decode cL_law 309 = .ok (.iaload, 1) ∧ decode cL_law 310 = .ok (.aload_n 0, 1) ∧ decode cL_law 311 = .ok (.iload_n 3, 1) := by decide +kernel
theorem dL_law_294 : Dc cL_law 294 (.iadd) 1 295 := ⟨DL_law_c8.1, rfl⟩
theorem dL_law_295 : Dc cL_law 295 (.iaload) 1 296 := ⟨DL_law_c8.2.1, rfl⟩
theorem dL_law_296 : Dc cL_law 296 (.aload_n 0) 1 297 := ⟨DL_law_c8.2.2.1, rfl⟩
theorem dL_law_297 : Dc cL_law 297 (.iload_n 3) 1 298 := ⟨DL_law_c8.2.2.2.1, rfl⟩
theorem dL_law_298 : Dc cL_law 298 (.iconst 2) 1 299 := ⟨DL_law_c8.2.2.2.2.1, rfl⟩
theorem dL_law_299 : Dc cL_law 299 (.iadd) 1 300 := ⟨DL_law_c8.2.2.2.2.2.1, rfl⟩
theorem dL_law_300 : Dc cL_law 300 (.iaload) 1 301 := ⟨DL_law_c8.2.2.2.2.2.2.1, rfl⟩
theorem dL_law_301 : Dc cL_law 301 (.invokevirtual 40) 3 304 := ⟨DL_law_c8.2.2.2.2.2.2.2.1, rfl⟩
theorem dL_law_304 : Dc cL_law 304 (.aload_n 2) 1 305 := ⟨DL_law_c8.2.2.2.2.2.2.2.2.1, rfl⟩
theorem dL_law_305 : Dc cL_law 305 (.aload_n 0) 1 306 := ⟨DL_law_c8.2.2.2.2.2.2.2.2.2.1, rfl⟩
theorem dL_law_306 : Dc cL_law 306 (.iload_n 3) 1 307 := ⟨DL_law_c8.2.2.2.2.2.2.2.2.2.2.1, rfl⟩
theorem dL_law_307 : Dc cL_law 307 (.iconst 1) 1 308 := ⟨DL_law_c8.2.2.2.2.2.2.2.2.2.2.2.1, rfl⟩
theorem dL_law_308 : Dc cL_law 308 (.iadd) 1 309 := ⟨DL_law_c8.2.2.2.2.2.2.2.2.2.2.2.2.1, rfl⟩
theorem dL_law_309 : Dc cL_law 309 (.iaload) 1 310 := ⟨DL_law_c8.2.2.2.2.2.2.2.2.2.2.2.2.2.1, rfl⟩
theorem dL_law_310 : Dc cL_law 310 (.aload_n 0) 1 311 := ⟨DL_law_c8.2.2.2.2.2.2.2.2.2.2.2.2.2.2.1, rfl⟩
theorem dL_law_311 : Dc cL_law 311 (.iload_n 3) 1 312 := ⟨DL_law_c8.2.2.2.2.2.2.2.2.2.2.2.2.2.2.2, rfl⟩
theorem DL_law_c9 : decode cL_law 312 = .ok (.iconst 2, 1) ∧ decode cL_law 313 = .ok (.iadd, 1) ∧ decode cL_law 314 = .ok (.iaload, 1) ∧ decode cL_law 315 = .ok (.invokevirtual 43, 3) ∧ decode cL_law 318 = .ok (.if_icmp .eq 514, 3) ∧ decode cL_law 321 = .ok (.iconst 0, 1) ∧ decode cL_law 322 = .ok (.ireturn, 1) ∧ decode cL_law 323 = .ok (.aload_n 1, 1) ∧ decode cL_law 324 = .ok (.aload_n 0, 1) ∧ decode cL_law 325 = .ok (.iload_n 3, 1) ∧ decode cL_law 326 = .ok (.iconst 1, 1) ∧ decode cL_law 327 = .ok (.iadd, 1) ∧ decode cL_law 328 = .ok (.iaload, 1) ∧ decode cL_law 329 = .ok (.invokevirtual 44, 3) ∧ decode cL_law 332 = .ok (.aload_n 2, 1) ∧ decode cL_law 333 = .ok (.aload_n 0, 1) := by decide +kernel
theorem dL_law_312 : Dc cL_law 312 (.iconst 2) 1 313 := ⟨DL_law_c9.1, rfl⟩
theorem dL_law_313 : Dc cL_law 313 (.iadd) 1 314 := ⟨DL_law_c9.2.1, rfl⟩
theorem dL_law_314 : Dc cL_law 314 (.iaload) 1 315 := ⟨DL_law_c9.2.2.1, rfl⟩
theorem dL_law_315 : Dc cL_law 315 (.invokevirtual 43) 3 318 := ⟨DL_law_c9.2.2.2.1, rfl⟩
theorem dL_law_318 : Db cL_law 318 (fun o => .if_icmp .eq o) 321 832 := ⟨514, DL_law_c9.2.2.2.2.1, rfl, rfl⟩
theorem dL_law_321 : Dc cL_law 321 (.iconst 0) 1 322 := ⟨DL_law_c9.2.2.2.2.2.1, rfl⟩
theorem dL_law_322 : Dc cL_law 322 (.ireturn) 1 323 := ⟨DL_law_c9.2.2.2.2.2.2.1, rfl⟩
theorem dL_law_323 : Dc cL_law 323 (.aload_n 1) 1 324 := ⟨DL_law_c9.2.2.2.2.2.2.2.1, rfl⟩
theorem dL_law_324 : Dc cL_law 324 (.aload_n 0) 1 325 := ⟨DL_law_c9.2.2.2.2.2.2.2.2.1, rfl⟩
theorem dL_law_325 : Dc cL_law 325 (.iload_n 3) 1 326 := ⟨DL_law_c9.2.2.2.2.2.2.2.2.2.1, rfl⟩
theorem dL_law_326 : Dc cL_law 326 (.iconst 1) 1 327 := ⟨DL_law_c9.2.2.2.2.2.2.2.2.2.2.1, rfl⟩
theorem dL_law_327 : Dc cL_law 327 (.iadd) 1 328 := ⟨DL_law_c9.2.2.2.2.2.2.2.2.2.2.2.1, rfl⟩
theorem dL_law_328 : Dc cL_law 328 (.iaload) 1 329 := ⟨DL_law_c9.2.2.2.2.2.2.2.2.2.2.2.2.1, rfl⟩
theorem dL_law_329 : Dc cL_law 329 (.invokevirtual 44) 3 332 := ⟨DL_law_c9.2.2.2.2.2.2.2.2.2.2.2.2.2.1, rfl⟩
theorem dL_law_332 : Dc cL_law 332 (.aload_n 2) 1 333 := ⟨DL_law_c9.2.2.2.2.2.2.2.2.2.2.2.2.2.2.1, rfl⟩
theorem dL_law_333 : Dc cL_law 333 (.aload_n 0) 1 334 := ⟨DL_law_c9.2.2.2.2.2.2.2.2.2.2.2.2.2.2.2, rfl⟩
theorem DL_law_c10 : decode cL_law 334 = .ok (.iload_n 3, 1) ∧ decode cL_law 335 = .ok (.iconst 1, 1) ∧ decode cL_law 336 = .ok (.iadd, 1) ∧ decode cL_law 337 = .ok (.iaload, 1) ∧ decode cL_law 338 = .ok (.invokevirtual 47, 3) ∧ decode cL_law 341 = .ok (.if_icmp .eq 491, 3) ∧ decode cL_law 344 = .ok (.iconst 0, 1) ∧ decode cL_law 345 = .ok (.ireturn, 1) ∧ decode cL_law 346 = .ok (.aload_n 1, 1) ∧ decode cL_law 347 = .ok (.aload_n 0, 1) ∧ decode cL_law 348 = .ok (.iload_n 3, 1) ∧ decode cL_law 349 = .ok (.iconst 1, 1) ∧ decode cL_law 350 = .ok (.iadd, 1) ∧ decode cL_law 351 = .ok (.iaload, 1) ∧ decode cL_law 352 = .ok (.invokevirtual 48, 3) ∧ decode cL_law 355 = .ok (.aload_n 2, 1) := by decide +kernel
theorem dL_law_334 : Dc cL_law 334 (.iload_n 3) 1 335 := ⟨DL_law_c10.1, rfl⟩
theorem dL_law_335 : Dc cL_law 335 (.iconst 1) 1 336 := ⟨DL_law_c10.2.1, rfl⟩
theorem dL_law_336 : Dc cL_law 336 (.iadd) 1 337 := ⟨DL_law_c10.2.2.1, rfl⟩
theorem dL_law_337 : Dc cL_law 337 (.iaload) 1 338 := ⟨DL_law_c10.2.2.2.1, rfl⟩
theorem dL_law_338 : Dc cL_law 338 (.invokevirtual 47) 3 341 := ⟨DL_law_c10.2.2.2.2.1, rfl⟩
theorem dL_law_341 : Db cL_law 341 (fun o => .if_icmp .eq o) 344 832 := ⟨491, DL_law_c10.2.2.2.2.2.1, rfl, rfl⟩
theorem dL_law_344 : Dc cL_law 344 (.iconst 0) 1 345 := ⟨DL_law_c10.2.2.2.2.2.2.1, rfl⟩
theorem dL_law_345 : Dc cL_law 345 (.ireturn) 1 346 := ⟨DL_law_c10.2.2.2.2.2.2.2.1, rfl⟩
theorem dL_law_346 : Dc cL_law 346 (.aload_n 1) 1 347 := ⟨DL_law_c10.2.2.2.2.2.2.2.2.1, rfl⟩
theorem dL_law_347 : Dc cL_law 347 (.aload_n 0) 1 348 := ⟨DL_law_c10.2.2.2.2.2.2.2.2.2.1, rfl⟩
theorem dL_law_348 : Dc cL_law 348 (.iload_n 3) 1 349 := ⟨DL_law_c10.2.2.2.2.2.2.2.2.2.2.1, rfl⟩
theorem dL_law_349 : Dc cL_law 349 (.iconst 1) 1 350 := ⟨DL_law_c10.2.2.2.2.2.2.2.2.2.2.2.1, rfl⟩
theorem dL_law_350 : Dc cL_law 350 (.iadd) 1 351 := ⟨DL_law_c10.2.2.2.2.2.2.2.2.2.2.2.2.1, rfl⟩
theorem dL_law_351 : Dc cL_law 351 (.iaload) 1 352 := ⟨DL_law_c10.2.2.2.2.2.2.2.2.2.2.2.2.2.1, rfl⟩
theorem dL_law_352 : Dc cL_law 352 (.invokevirtual 48) 3 355 := ⟨DL_law_c10.2.2.2.2.2.2.2.2.2.2.2.2.2.2.1, rfl⟩
theorem dL_law_355 : Dc cL_law 355 (.aload_n 2) 1 356 := ⟨DL_law_c10.2.2.2.2.2.2.2.2.2.2.2.2.2.2.2, rfl⟩
theorem DL_law_c11 : decode cL_law 356 = .ok (.aload_n 0, 1) ∧ decode cL_law 357 = .ok (.iload_n 3, 1) ∧ decode cL_law 358 = .ok (.iconst 1, 1) ∧ decode cL_law 359 = .ok (.iadd, 1) ∧ decode cL_law 360 = .ok (.iaload, 1) ∧ decode cL_law 361 = .ok (.invokevirtual 51, 3) ∧ decode cL_law 364 = .ok (.if_icmp .eq 468, 3) ∧ decode cL_law 367 = .ok (.iconst 0, 1) ∧ decode cL_law 368 = .ok (.ireturn, 1) ∧ decode cL_law 369 = .ok (.aload_n 1, 1) ∧ decode cL_law 370 = .ok (.aload_n 0, 1) ∧ decode cL_law 371 = .ok (.iload_n 3, 1) ∧ decode cL_law 372 = .ok (.iconst 1, 1) ∧ decode cL_law 373 = .ok (.iadd, 1) ∧ decode cL_law 374 = .ok (.iaload, 1) ∧ decode cL_law 375 = .ok (.i2c, 1) := by decide +kernel
theorem dL_law_356 : Dc cL_law 356 (.aload_n 0) 1 357 := ⟨DL_law_c11.1, rfl⟩
theorem dL_law_357 : Dc cL_law 357 (.iload_n 3) 1 358 := ⟨DL_law_c11.2.1, rfl⟩
theorem dL_law_358 : Dc cL_law 358 (.iconst 1) 1 359 := ⟨DL_law_c11.2.2.1, rfl⟩
theorem dL_law_359 : Dc cL_law 359 (.iadd) 1 360 := ⟨DL_law_c11.2.2.2.1, rfl⟩
theorem dL_law_360 : Dc cL_law 360 (.iaload) 1 361 := ⟨DL_law_c11.2.2.2.2.1, rfl⟩
theorem dL_law_361 : Dc cL_law 361 (.invokevirtual 51) 3 364 := ⟨DL_law_c11.2.2.2.2.2.1, rfl⟩
theorem dL_law_364 : Db cL_law 364 (fun o => .if_icmp .eq o) 367 832 := ⟨468, DL_law_c11.2.2.2.2.2.2.1, rfl, rfl⟩
theorem dL_law_367 : Dc cL_law 367 (.iconst 0) 1 368 := ⟨DL_law_c11.2.2.2.2.2.2.2.1, rfl⟩
theorem dL_law_368 : Dc cL_law 368 (.ireturn) 1 369 := ⟨DL_law_c11.2.2.2.2.2.2.2.2.1, rfl⟩
theorem dL_law_369 : Dc cL_law 369 (.aload_n 1) 1 370 := ⟨DL_law_c11.2.2.2.2.2.2.2.2.2.1, rfl⟩
theorem dL_law_370 : Dc cL_law 370 (.aload_n 0) 1 371 := ⟨DL_law_c11.2.2.2.2.2.2.2.2.2.2.1, rfl⟩
theorem dL_law_371 : Dc cL_law 371 (.iload_n 3) 1 372 := ⟨DL_law_c11.2.2.2.2.2.2.2.2.2.2.2.1, rfl⟩
theorem dL_law_372 : Dc cL_law 372 (.iconst 1) 1 373 := ⟨DL_law_c11.2.2.2.2.2.2.2.2.2.2.2.2.1, rfl⟩
theorem dL_law_373 : Dc cL_law 373 (.iadd) 1 374 := ⟨DL_law_c11.2.2.2.2.2.2.2.2.2.2.2.2.2.1, rfl⟩
theorem dL_law_374 : Dc cL_law 374 (.iaload) 1 375 := ⟨DL_law_c11.2.2.2.2.2.2.2.2.2.2.2.2.2.2.1, rfl⟩
theorem dL_law_375 : Dc cL_law 375 (.i2c) 1 376 := ⟨DL_law_c11.2.2.2.2.2.2.2.2.2.2.2.2.2.2.2, rfl⟩
theorem DL_law_c12 : decode cL_law 376 = .ok (.invokevirtual 52, 3) ∧ decode cL_law 379 = .ok (.aload_n 2, 1) ∧ decode cL_law 380 = .ok (.aload_n 0, 1) ∧ decode cL_law 381 = .ok (.iload_n 3, 1) ∧ decode cL_law 382 = .ok (.iconst 1, 1) ∧ decode cL_law 383 = .ok (.iadd, 1) ∧ decode cL_law 384 = .ok (.iaload, 1) ∧ decode cL_law 385 = .ok (.i2c, 1) ∧ decode cL_law 386 = .ok (.invokevirtual 56, 3) ∧ decode cL_law 389 = .ok (.if_icmp .eq 443, 3) ∧ decode cL_law 392 = .ok (.iconst 0, 1) ∧ decode cL_law 393 = .ok (.ireturn, 1) ∧ decode cL_law 394 = .ok (.aload_n 1, 1) ∧ decode cL_law 395 = .ok (.invokevirtual 57, 3) ∧ decode cL_law 398 = .ok (.aload_n 2, 1) ∧ decode cL_law 399 = .ok (.invokevirtual 60, 3) := by decide +kernel
theorem dL_law_376 : Dc cL_law 376 (.invokevirtual 52) 3 379 := ⟨DL_law_c12.1, rfl⟩
theorem dL_law_379 : Dc cL_law 379 (.aload_n 2) 1 380 := ⟨DL_law_c12.2.1, rfl⟩
theorem dL_law_380 : Dc cL_law 380 (.aload_n 0) 1 381 := ⟨DL_law_c12.2.2.1, rfl⟩
theorem dL_law_381 : Dc cL_law 381 (.iload_n 3) 1 382 := ⟨DL_law_c12.2.2.2.1, rfl⟩
theorem dL_law_382 : Dc cL_law 382 (.iconst 1) 1 383 := ⟨DL_law_c12.2.2.2.2.1, rfl⟩
theorem dL_law_383 : Dc cL_law 383 (.iadd) 1 384 := ⟨DL_law_c12.2.2.2.2.2.1, rfl⟩
theorem dL_law_384 : Dc cL_law 384 (.iaload) 1 385 := ⟨DL_law_c12.2.2.2.2.2.2.1, rfl⟩
theorem dL_law_385 : Dc cL_law 385 (.i2c) 1 386 := ⟨DL_law_c12.2.2.2.2.2.2.2.1, rfl⟩
theorem dL_law_386 : Dc cL_law 386 (.invokevirtual 56) 3 389 := ⟨DL_law_c12.2.2.2.2.2.2.2.2.1, rfl⟩
theorem dL_law_389 : Db cL_law 389 (fun o => .if_icmp .eq o) 392 832 := ⟨443, DL_law_c12.2.2.2.2.2.2.2.2.2.1, rfl, rfl⟩
theorem dL_law_392 : Dc cL_law 392 (.iconst 0) 1 393 := ⟨DL_law_c12.2.2.2.2.2.2.2.2.2.2.1, rfl⟩
theorem dL_law_393 : Dc cL_law 393 (.ireturn) 1 394 := ⟨DL_law_c12.2.2.2.2.2.2.2.2.2.2.2.1, rfl⟩
theorem dL_law_394 : Dc cL_law 394 (.aload_n 1) 1 395 := ⟨DL_law_c12.2.2.2.2.2.2.2.2.2.2.2.2.1, rfl⟩
theorem dL_law_395 : Dc cL_law 395 (.invokevirtual 57) 3 398 := ⟨DL_law_c12.2.2.2.2.2.2.2.2.2.2.2.2.2.1, rfl⟩
theorem dL_law_398 : Dc cL_law 398 (.aload_n 2) 1 399 := ⟨DL_law_c12.2.2.2.2.2.2.2.2.2.2.2.2.2.2.1, rfl⟩
theorem dL_law_399 : Dc cL_law 399 (.invokevirtual 60) 3 402 := ⟨DL_law_c12.2.2.2.2.2.2.2.2.2.2.2.2.2.2.2, rfl⟩
theorem DL_law_c13 : decode cL_law 402 = .ok (.if_icmp .eq 430, 3) ∧ decode cL_law 405 = .ok (.iconst 0, 1) ∧ decode cL_law 406 = .ok (.ireturn, 1) ∧ decode cL_law 407 = .ok (.aload_n 1, 1) ∧ decode cL_law 408 = .ok (.invokevirtual 61, 3) ∧ decode cL_law 411 = .ok (.aload_n 2, 1) ∧ decode cL_law 412 = .ok (.invokevirtual 64, 3) ∧ decode cL_law 415 = .ok (.if_icmp .eq 417, 3) ∧ decode cL_law 418 = .ok (.iconst 0, 1) ∧ decode cL_law 419 = .ok (.ireturn, 1) ∧ decode cL_law 420 = .ok (.aload_n 1, 1) ∧ decode cL_law 421 = .ok (.invokevirtual 65, 3) ∧ decode cL_law 424 = .ok (.aload_n 2, 1) ∧ decode cL_law 425 = .ok (.invokevirtual 68, 3) ∧ decode cL_law 428 = .ok (.if_icmp .eq 404, 3) ∧ decode cL_law 431 = .ok (.iconst 0, 1) := by decide +kernel
theorem dL_law_402 : Db cL_law 402 (fun o => .if_icmp .eq o) 405 832 := ⟨430, DL_law_c13.1, rfl, rfl⟩
theorem dL_law_405 : Dc cL_law 405 (.iconst 0) 1 406 := ⟨DL_law_c13.2.1, rfl⟩
theorem dL_law_406 : Dc cL_law 406 (.ireturn) 1 407 := ⟨DL_law_c13.2.2.1, rfl⟩
theorem dL_law_407 : Dc cL_law 407 (.aload_n 1) 1 408 := ⟨DL_law_c13.2.2.2.1, rfl⟩
theorem dL_law_408 : Dc cL_law 408 (.invokevirtual 61) 3 411 := ⟨DL_law_c13.2.2.2.2.1, rfl⟩
theorem dL_law_411 : Dc cL_law 411 (.aload_n 2) 1 412 := ⟨DL_law_c13.2.2.2.2.2.1, rfl⟩
theorem dL_law_412 : Dc cL_law 412 (.invokevirtual 64) 3 415 := ⟨DL_law_c13.2.2.2.2.2.2.1, rfl⟩
theorem dL_law_415 : Db cL_law 415 (fun o => .if_icmp .eq o) 418 832 := ⟨417, DL_law_c13.2.2.2.2.2.2.2.1, rfl, rfl⟩
theorem dL_law_418 : Dc cL_law 418 (.iconst 0) 1 419 := ⟨DL_law_c13.2.2.2.2.2.2.2.2.1, rfl⟩
theorem dL_law_419 : Dc cL_law 419 (.ireturn) 1 420 := ⟨DL_law_c13.2.2.2.2.2.2.2.2.2.1, rfl⟩
theorem dL_law_420 : Dc cL_law 420 (.aload_n 1) 1 421 := ⟨DL_law_c13.2.2.2.2.2.2.2.2.2.2.1, rfl⟩
theorem dL_law_421 : Dc cL_law 421 (.invokevirtual 65) 3 424 := ⟨DL_law_c13.2.2.2.2.2.2.2.2.2.2.2.1, rfl⟩
theorem dL_law_424 : Dc cL_law 424 (.aload_n 2) 1 425 := ⟨DL_law_c13.2.2.2.2.2.2.2.2.2.2.2.2.1, rfl⟩
theorem dL_law_425 : Dc cL_law 425 (.invokevirtual 68) 3 428 := ⟨DL_law_c13.2.2.2.2.2.2.2.2.2.2.2.2.2.1, rfl⟩
theorem dL_law_428 : Db cL_law 428 (fun o => .if_icmp .eq o) 431 832 := ⟨404, DL_law_c13.2.2.2.2.2.2.2.2.2.2.2.2.2.2.1, rfl, rfl⟩
theorem dL_law_431 : Dc cL_law 431 (.iconst 0) 1 432 := ⟨DL_law_c13.2.2.2.2.2.2.2.2.2.2.2.2.2.2.2, rfl⟩
theorem DL_law_c14 : decode cL_law 432 = .ok (.ireturn, 1) ∧ decode cL_law 433 = .ok (.aload_n 1, 1) ∧ decode cL_law 434 = .ok (.invokevirtual 69, 3) ∧ decode cL_law 437 = .ok (.aload_n 2, 1) ∧ decode cL_law 438 = .ok (.invokevirtual 72, 3) ∧ decode cL_law 441 = .ok (.if_icmp .eq 391, 3) ∧ decode cL_law 444 = .ok (.iconst 0, 1) ∧ decode cL_law 445 = .ok (.ireturn, 1) ∧ decode cL_law 446 = .ok (.aload_n 1, 1) ∧ decode cL_law 447 = .ok (.invokevirtual 73, 3) ∧ decode cL_law 450 = .ok (.aload_n 2, 1) ∧ decode cL_law 451 = .ok (.invokevirtual 76, 3) ∧ decode cL_law 454 = .ok (.if_icmp .eq 378, 3) ∧ decode cL_law 457 = .ok (.iconst 0, 1) ∧ decode cL_law 458 = .ok (.ireturn, 1) ∧ decode cL_law 459 = .ok (.aload_n 1, 1) := by decide +kernel
theorem dL_law_432 : Dc cL_law 432 (.ireturn) 1 433 := ⟨DL_law_c14.1, rfl⟩
theorem dL_law_433 : Dc cL_law 433 (.aload_n 1) 1 434 := ⟨DL_law_c14.2.1, rfl⟩
theorem dL_law_434 : Dc cL_law 434 (.invokevirtual 69) 3 437 := ⟨DL_law_c14.2.2.1, rfl⟩
theorem dL_law_437 : Dc cL_law 437 (.aload_n 2) 1 438 := ⟨DL_law_c14.2.2.2.1, rfl⟩
theorem dL_law_438 : Dc cL_law 438 (.invokevirtual 72) 3 441 := ⟨DL_law_c14.2.2.2.2.1, rfl⟩
theorem dL_law_441 : Db cL_law 441 (fun o => .if_icmp .eq o) 444 832 := ⟨391, DL_law_c14.2.2.2.2.2.1, rfl, rfl⟩
theorem dL_law_444 : Dc cL_law 444 (.iconst 0) 1 445 := ⟨DL_law_c14.2.2.2.2.2.2.1, rfl⟩
theorem dL_law_445 : Dc cL_law 445 (.ireturn) 1 446 := ⟨DL_law_c14.2.2.2.2.2.2.2.1, rfl⟩
theorem dL_law_446 : Dc cL_law 446 (.aload_n 1) 1 447 := ⟨DL_law_c14.2.2.2.2.2.2.2.2.1, rfl⟩
theorem dL_law_447 : Dc cL_law 447 (.invokevirtual 73) 3 450 := ⟨DL_law_c14.2.2.2.2.2.2.2.2.2.1, rfl⟩
theorem dL_law_450 : Dc cL_law 450 (.aload_n 2) 1 451 := ⟨DL_law_c14.2.2.2.2.2.2.2.2.2.2.1, rfl⟩
theorem dL_law_451 : Dc cL_law 451 (.invokevirtual 76) 3 454 := ⟨DL_law_c14.2.2.2.2.2.2.2.2.2.2.2.1, rfl⟩
theorem dL_law_454 : Db cL_law 454 (fun o => .if_icmp .eq o) 457 832 := ⟨378, DL_law_c14.2.2.2.2.2.2.2.2.2.2.2.2.1, rfl, rfl⟩
theorem dL_law_457 : Dc cL_law 457 (.iconst 0) 1 458 := ⟨DL_law_c14.2.2.2.2.2.2.2.2.2.2.2.2.2.1, rfl⟩
theorem dL_law_458 : Dc cL_law 458 (.ireturn) 1 459 := ⟨DL_law_c14.2.2.2.2.2.2.2.2.2.2.2.2.2.2.1, rfl⟩
theorem dL_law_459 : Dc cL_law 459 (.aload_n 1) 1 460 := ⟨DL_law_c14.2.2.2.2.2.2.2.2.2.2.2.2.2.2.2, rfl⟩
theorem DL_law_c15 : decode cL_law 460 = .ok (.aload_n 0, 1) ∧ decode cL_law 461 = .ok (.iload_n 3, 1) ∧ decode cL_law 462 = .ok (.iconst 1, 1) ∧ decode cL_law 463 = .ok (.iadd, 1) ∧ decode cL_law 464 = .ok (.iaload, 1) ∧ decode cL_law 465 = .ok (.invokevirtual 77, 3) ∧ decode cL_law 468 = .ok (.aload_n 2, 1) ∧ decode cL_law 469 = .ok (.aload_n 0, 1) ∧ decode cL_law 470 = .ok (.iload_n 3, 1) ∧ decode cL_law 471 = .ok (.iconst 1, 1) ∧ decode cL_law 472 = .ok (.iadd, 1) ∧ decode cL_law 473 = .ok (.iaload, 1) ∧ decode cL_law 474 = .ok (.invokevirtual 80, 3) ∧ decode cL_law 477 = .ok (.if_icmp .eq 355, 3) ∧ decode cL_law 480 = .ok (.iconst 0, 1) ∧ decode cL_law 481 = .ok (.ireturn, 1) := by decide +kernel
theorem dL_law_460 : Dc cL_law 460 (.aload_n 0) 1 461 := ⟨DL_law_c15.1, rfl⟩
theorem dL_law_461 : Dc cL_law 461 (.iload_n 3) 1 462 := ⟨DL_law_c15.2.1, rfl⟩
theorem dL_law_462 : Dc cL_law 462 (.iconst 1) 1 463 := ⟨DL_law_c15.2.2.1, rfl⟩
theorem dL_law_463 : Dc cL_law 463 (.iadd) 1 464 := ⟨DL_law_c15.2.2.2.1, rfl⟩
theorem dL_law_464 : Dc cL_law 464 (.iaload) 1 465 := ⟨DL_law_c15.2.2.2.2.1, rfl⟩
theorem dL_law_465 : Dc cL_law 465 (.invokevirtual 77) 3 468 := ⟨DL_law_c15.2.2.2.2.2.1, rfl⟩
theorem dL_law_468 : Dc cL_law 468 (.aload_n 2) 1 469 := ⟨DL_law_c15.2.2.2.2.2.2.1, rfl⟩
theorem dL_law_469 : Dc cL_law 469 (.aload_n 0) 1 470 := ⟨DL_law_c15.2.2.2.2.2.2.2.1, rfl⟩
theorem dL_law_470 : Dc cL_law 470 (.iload_n 3) 1 471 := ⟨DL_law_c15.2.2.2.2.2.2.2.2.1, rfl⟩
theorem dL_law_471 : Dc cL_law 471 (.iconst 1) 1 472 := ⟨DL_law_c15.2.2.2.2.2.2.2.2.2.1, rfl⟩
theorem dL_law_472 : Dc cL_law 472 (.iadd) 1 473 := ⟨DL_law_c15.2.2.2.2.2.2.2.2.2.2.1, rfl⟩
theorem dL_law_473 : Dc cL_law 473 (.iaload) 1 474 := ⟨DL_law_c15.2.2.2.2.2.2.2.2.2.2.2.1, rfl⟩
theorem dL_law_474 : Dc cL_law 474 (.invokevirtual 80) 3 477 := ⟨DL_law_c15.2.2.2.2.2.2.2.2.2.2.2.2.1, rfl⟩
theorem dL_law_477 : Db cL_law 477 (fun o => .if_icmp .eq o) 480 832 := ⟨355, DL_law_c15.2.2.2.2.2.2.2.2.2.2.2.2.2.1, rfl, rfl⟩
theorem dL_law_480 : Dc cL_law 480 (.iconst 0) 1 481 := ⟨DL_law_c15.2.2.2.2.2.2.2.2.2.2.2.2.2.2.1, rfl⟩
theorem dL_law_481 : Dc cL_law 481 (.ireturn) 1 482 := ⟨DL_law_c15.2.2.2.2.2.2.2.2.2.2.2.2.2.2.2, rfl⟩
theorem DL_law_c16 : decode cL_law 482 = .ok (.aload_n 1, 1) ∧ decode cL_law 483 = .ok (.aload_n 0, 1) ∧ decode cL_law 484 = .ok (.iload_n 3, 1) ∧ decode cL_law 485 = .ok (.iconst 1, 1) ∧ decode cL_law 486 = .ok (.iadd, 1) ∧ decode cL_law 487 = .ok (.iaload, 1) ∧ decode cL_law 488 = .ok (.aload_n 0, 1) ∧ decode cL_law 489 = .ok (.iload_n 3, 1) ∧ decode cL_law 490 = .ok (.iconst 2, 1) ∧ decode cL_law 491 = .ok (.iadd, 1) ∧ decode cL_law 492 = .ok (.iaload, 1) ∧ decode cL_law 493 = .ok (.aload_n 0, 1) ∧ decode cL_law 494 = .ok (.iload_n 3, 1) ∧ decode cL_law 495 = .ok (.iconst 3, 1) ∧ decode cL_law 496 = .ok (.iadd, 1) ∧ decode cL_law 497 = .ok (.iaload, 1) := by decide +kernel
theorem dL_law_482 : Dc cL_law 482 (.aload_n 1) 1 483 := ⟨DL_law_c16.1, rfl⟩
theorem dL_law_483 : Dc cL_law 483 (.aload_n 0) 1 484 := ⟨DL_law_c16.2.1, rfl⟩
theorem dL_law_484 : Dc cL_law 484 (.iload_n 3) 1 485 := ⟨DL_law_c16.2.2.1, rfl⟩
theorem dL_law_485 : Dc cL_law 485 (.iconst 1) 1 486 := ⟨DL_law_c16.2.2.2.1, rfl⟩
theorem dL_law_486 : Dc cL_law 486 (.iadd) 1 487 := ⟨DL_law_c16.2.2.2.2.1, rfl⟩
theorem dL_law_487 : Dc cL_law 487 (.iaload) 1 488 := ⟨DL_law_c16.2.2.2.2.2.1, rfl⟩
theorem dL_law_488 : Dc cL_law 488 (.aload_n 0) 1 489 := ⟨DL_law_c16.2.2.2.2.2.2.1, rfl⟩
theorem dL_law_489 : Dc cL_law 489 (.iload_n 3) 1 490 := ⟨DL_law_c16.2.2.2.2.2.2.2.1, rfl⟩
theorem dL_law_490 : Dc cL_law 490 (.iconst 2) 1 491 := ⟨DL_law_c16.2.2.2.2.2.2.2.2.1, rfl⟩
theorem dL_law_491 : Dc cL_law 491 (.iadd) 1 492 := ⟨DL_law_c16.2.2.2.2.2.2.2.2.2.1, rfl⟩
theorem dL_law_492 : Dc cL_law 492 (.iaload) 1 493 := ⟨DL_law_c16.2.2.2.2.2.2.2.2.2.2.1, rfl⟩
theorem dL_law_493 : Dc cL_law 493 (.aload_n 0) 1 494 := ⟨DL_law_c16.2.2.2.2.2.2.2.2.2.2.2.1, rfl⟩
theorem dL_law_494 : Dc cL_law 494 (.iload_n 3) 1 495 := ⟨DL_law_c16.2.2.2.2.2.2.2.2.2.2.2.2.1, rfl⟩
theorem dL_law_495 : Dc cL_law 495 (.iconst 3) 1 496 := ⟨DL_law_c16.2.2.2.2.2.2.2.2.2.2.2.2.2.1, rfl⟩
theorem dL_law_496 : Dc cL_law 496 (.iadd) 1 497 := ⟨DL_law_c16.2.2.2.2.2.2.2.2.2.2.2.2.2.2.1, rfl⟩
theorem dL_law_497 : Dc cL_law 497 (.iaload) 1 498 := ⟨DL_law_c16.2.2.2.2.2.2.2.2.2.2.2.2.2.2.2, rfl⟩
theorem DL_law_c17 : decode cL_law 498 = .ok (.invokevirtual 81, 3) ∧ decode cL_law 501 = .ok (.aload_n 2, 1) ∧ decode cL_law 502 = .ok (.aload_n 0, 1) ∧ decode cL_law 503 = .ok (.iload_n 3, 1) ∧ decode cL_law 504 = .ok (.iconst 1, 1) ∧ decode cL_law 505 = .ok (.iadd, 1) ∧ decode cL_law 506 = .ok (.iaload, 1) ∧ decode cL_law 507 = .ok (.aload_n 0, 1) ∧ decode cL_law 508 = .ok (.iload_n 3, 1) ∧ decode cL_law 509 = .ok (.iconst 2, 1) ∧ decode cL_law 510 = .ok (.iadd, 1) ∧ decode cL_law 511 = .ok (.iaload, 1) ∧ decode cL_law 512 = .ok (.aload_n 0, 1) ∧ decode cL_law 513 = .ok (.iload_n 3, 1) ∧ decode cL_law 514 = .ok (.iconst 3, 1) ∧ decode cL_law 515 = .ok (.iadd, 1) := by decide +kernel
theorem dL_law_498 : Dc cL_law 498 (.invokevirtual 81) 3 501 := ⟨DL_law_c17.1, rfl⟩
theorem dL_law_501 : Dc cL_law 501 (.aload_n 2) 1 502 := ⟨DL_law_c17.2.1, rfl⟩
theorem dL_law_502 : Dc cL_law 502 (.aload_n 0) 1 503 := ⟨DL_law_c17.2.2.1, rfl⟩
theorem dL_law_503 : Dc cL_law 503 (.iload_n 3) 1 504 := ⟨DL_law_c17.2.2.2.1, rfl⟩
theorem dL_law_504 : Dc cL_law 504 (.iconst 1) 1 505 := ⟨DL_law_c17.2.2.2.2.1, rfl⟩
theorem dL_law_505 : Dc cL_law 505 (.iadd) 1 506 := ⟨DL_law_c17.2.2.2.2.2.1, rfl⟩
theorem dL_law_506 : Dc cL_law 506 (.iaload) 1 507 := ⟨DL_law_c17.2.2.2.2.2.2.1, rfl⟩
theorem dL_law_507 : Dc cL_law 507 (.aload_n 0) 1 508 := ⟨DL_law_c17.2.2.2.2.2.2.2.1, rfl⟩
theorem dL_law_508 : Dc cL_law 508 (.iload_n 3) 1 509 := ⟨DL_law_c17.2.2.2.2.2.2.2.2.1, rfl⟩
theorem dL_law_509 : Dc cL_law 509 (.iconst 2) 1 510 := ⟨DL_law_c17.2.2.2.2.2.2.2.2.2.1, rfl⟩
theorem dL_law_510 : Dc cL_law 510 (.iadd) 1 511 := ⟨DL_law_c17.2.2.2.2.2.2.2.2.2.2.1, rfl⟩
theorem dL_law_511 : Dc cL_law 511 (.iaload) 1 512 := ⟨DL_law_c17.2.2.2.2.2.2.2.2.2.2.2.1, rfl⟩
theorem dL_law_512 : Dc cL_law 512 (.aload_n 0) 1 513 := ⟨DL_law_c17.2.2.2.2.2.2.2.2.2.2.2.2.1, rfl⟩
theorem dL_law_513 : Dc cL_law 513 (.iload_n 3) 1 514 := ⟨DL_law_c17.2.2.2.2.2.2.2.2.2.2.2.2.2.1, rfl⟩
theorem dL_law_514 : Dc cL_law 514 (.iconst 3) 1 515 := ⟨DL_law_c17.2.2.2.2.2.2.2.2.2.2.2.2.2.2.1, rfl⟩
theorem dL_law_515 : Dc cL_law 515 (.iadd) 1 516 := ⟨DL_law_c17.2.2.2.2.2.2.2.2.2.2.2.2.2.2.2, rfl⟩
theorem DL_law_c18 : decode cL_law 516 = .ok (.iaload, 1) ∧ decode cL_law 517 = .ok (.invokevirtual 85, 3) ∧ decode cL_law 520 = .ok (.if_icmp .eq 312, 3) ∧ decode cL_law 523 = .ok (.iconst 0, 1) ∧ decode cL_law 524 = .ok (.ireturn, 1) ∧ decode cL_law 525 = .ok (.aload_n 1, 1) ∧ decode cL_law 526 = .ok (.aload_n 0, 1) ∧ decode cL_law 527 = .ok (.iload_n 3, 1) ∧ decode cL_law 528 = .ok (.iconst 1, 1) ∧ decode cL_law 529 = .ok (.iadd, 1) ∧ decode cL_law 530 = .ok (.iaload, 1) ∧ decode cL_law 531 = .ok (.aload_n 0, 1) ∧ decode cL_law 532 = .ok (.iload_n 3, 1) ∧ decode cL_law 533 = .ok (.iconst 2, 1) ∧ decode cL_law 534 = .ok (.iadd, 1) ∧ decode cL_law 535 = .ok (.iaload, 1) := by decide +kernel
theorem dL_law_516 : Dc cL_law 516 (.iaload) 1 517 := ⟨DL_law_c18.1, rfl⟩
theorem dL_law_517 : Dc cL_law 517 (.invokevirtual 85) 3 520 := ⟨DL_law_c18.2.1, rfl⟩
theorem dL_law_520 : Db cL_law 520 (fun o => .if_icmp .eq o) 523 832 := ⟨312, DL_law_c18.2.2.1, rfl, rfl⟩
theorem dL_law_523 : Dc cL_law 523 (.iconst 0) 1 524 := ⟨DL_law_c18.2.2.2.1, rfl⟩
theorem dL_law_524 : Dc cL_law 524 (.ireturn) 1 525 := ⟨DL_law_c18.2.2.2.2.1, rfl⟩
theorem dL_law_525 : Dc cL_law 525 (.aload_n 1) 1 526 := ⟨DL_law_c18.2.2.2.2.2.1, rfl⟩
theorem dL_law_526 : Dc cL_law 526 (.aload_n 0) 1 527 := ⟨DL_law_c18.2.2.2.2.2.2.1, rfl⟩
theorem dL_law_527 : Dc cL_law 527 (.iload_n 3) 1 528 := ⟨DL_law_c18.2.2.2.2.2.2.2.1, rfl⟩
theorem dL_law_528 : Dc cL_law 528 (.iconst 1) 1 529 := ⟨DL_law_c18.2.2.2.2.2.2.2.2.1, rfl⟩
theorem dL_law_529 : Dc cL_law 529 (.iadd) 1 530 := ⟨DL_law_c18.2.2.2.2.2.2.2.2.2.1, rfl⟩
theorem dL_law_530 : Dc cL_law 530 (.iaload) 1 531 := ⟨DL_law_c18.2.2.2.2.2.2.2.2.2.2.1, rfl⟩
theorem dL_law_531 : Dc cL_law 531 (.aload_n 0) 1 532 := ⟨DL_law_c18.2.2.2.2.2.2.2.2.2.2.2.1, rfl⟩
theorem dL_law_532 : Dc cL_law 532 (.iload_n 3) 1 533 := ⟨DL_law_c18.2.2.2.2.2.2.2.2.2.2.2.2.1, rfl⟩
theorem dL_law_533 : Dc cL_law 533 (.iconst 2) 1 534 := ⟨DL_law_c18.2.2.2.2.2.2.2.2.2.2.2.2.2.1, rfl⟩
theorem dL_law_534 : Dc cL_law 534 (.iadd) 1 535 := ⟨DL_law_c18.2.2.2.2.2.2.2.2.2.2.2.2.2.2.1, rfl⟩
theorem dL_law_535 : Dc cL_law 535 (.iaload) 1 536 := ⟨DL_law_c18.2.2.2.2.2.2.2.2.2.2.2.2.2.2.2, rfl⟩
theorem DL_law_c19 : decode cL_law 536 = .ok (.aload_n 0, 1) ∧ decode cL_law 537 = .ok (.iload_n 3, 1) ∧ decode cL_law 538 = .ok (.iconst 3, 1) ∧ decode cL_law 539 = .ok (.iadd, 1) ∧ decode cL_law 540 = .ok (.iaload, 1) ∧ decode cL_law 541 = .ok (.invokevirtual 86, 3) ∧ decode cL_law 544 = .ok (.aload_n 2, 1) ∧ decode cL_law 545 = .ok (.aload_n 0, 1) ∧ decode cL_law 546 = .ok (.iload_n 3, 1) ∧ decode cL_law 547 = .ok (.iconst 1, 1) ∧ decode cL_law 548 = .ok (.iadd, 1) ∧ decode cL_law 549 = .ok (.iaload, 1) ∧ decode cL_law 550 = .ok (.aload_n 0, 1) ∧ decode cL_law 551 = .ok (.iload_n 3, 1) ∧ decode cL_law 552 = .ok (.iconst 2, 1) ∧ decode cL_law 553 = .ok (.iadd, 1) := by decide +kernel
theorem dL_law_536 : Dc cL_law 536 (.aload_n 0) 1 537 := ⟨DL_law_c19.1, rfl⟩
theorem dL_law_537 : Dc cL_law 537 (.iload_n 3) 1 538 := ⟨DL_law_c19.2.1, rfl⟩
theorem dL_law_538 : Dc cL_law 538 (.iconst 3) 1 539 := ⟨DL_law_c19.2.2.1, rfl⟩
theorem dL_law_539 : Dc cL_law 539 (.iadd) 1 540 := ⟨DL_law_c19.2.2.2.1, rfl⟩
theorem dL_law_540 : Dc cL_law 540 (.iaload) 1 541 := ⟨DL_law_c19.2.2.2.2.1, rfl⟩
theorem dL_law_541 : Dc cL_law 541 (.invokevirtual 86) 3 544 := ⟨DL_law_c19.2.2.2.2.2.1, rfl⟩
theorem dL_law_544 : Dc cL_law 544 (.aload_n 2) 1 545 := ⟨DL_law_c19.2.2.2.2.2.2.1, rfl⟩
theorem dL_law_545 : Dc cL_law 545 (.aload_n 0) 1 546 := ⟨DL_law_c19.2.2.2.2.2.2.2.1, rfl⟩
theorem dL_law_546 : Dc cL_law 546 (.iload_n 3) 1 547 := ⟨DL_law_c19.2.2.2.2.2.2.2.2.1, rfl⟩
theorem dL_law_547 : Dc cL_law 547 (.iconst 1) 1 548 := ⟨DL_law_c19.2.2.2.2.2.2.2.2.2.1, rfl⟩
theorem dL_law_548 : Dc cL_law 548 (.iadd) 1 549 := ⟨DL_law_c19.2.2.2.2.2.2.2.2.2.2.1, rfl⟩
theorem dL_law_549 : Dc cL_law 549 (.iaload) 1 550 := ⟨DL_law_c19.2.2.2.2.2.2.2.2.2.2.2.1, rfl⟩
theorem dL_law_550 : Dc cL_law 550 (.aload_n 0) 1 551 := ⟨DL_law_c19.2.2.2.2.2.2.2.2.2.2.2.2.1, rfl⟩
theorem dL_law_551 : Dc cL_law 551 (.iload_n 3) 1 552 := ⟨DL_law_c19.2.2.2.2.2.2.2.2.2.2.2.2.2.1, rfl⟩
theorem dL_law_552 : Dc cL_law 552 (.iconst 2) 1 553 := ⟨DL_law_c19.2.2.2.2.2.2.2.2.2.2.2.2.2.2.1, rfl⟩
theorem dL_law_553 : Dc cL_law 553 (.iadd) 1 554 := ⟨DL_law_c19.2.2.2.2.2.2.2.2.2.2.2.2.2.2.2, rfl⟩
theorem DL_law_c20 : decode cL_law 554 = .ok (.iaload, 1) ∧ decode cL_law 555 = .ok (.aload_n 0, 1) ∧ decode cL_law 556 = .ok (.iload_n 3, 1) ∧ decode cL_law 557 = .ok (.iconst 3, 1) ∧ decode cL_law 558 = .ok (.iadd, 1) ∧ decode cL_law 559 = .ok (.iaload, 1) ∧ decode cL_law 560 = .ok (.invokevirtual 89, 3) ∧ decode cL_law 563 = .ok (.if_icmp .eq 269, 3) ∧ decode cL_law 566 = .ok (.iconst 0, 1) ∧ decode cL_law 567 = .ok (.ireturn, 1) ∧ decode cL_law 568 = .ok (.aload_n 1, 1) ∧ decode cL_law 569 = .ok (.aload_n 0, 1) ∧ decode cL_law 570 = .ok (.iload_n 3, 1) ∧ decode cL_law 571 = .ok (.iconst 1, 1) ∧ decode cL_law 572 = .ok (.iadd, 1) ∧ decode cL_law 573 = .ok (.iaload, 1) := by decide +kernel
theorem dL_law_554 : Dc cL_law 554 (.iaload) 1 555 := ⟨DL_law_c20.1, rfl⟩
theorem dL_law_555 : Dc cL_law 555 (.aload_n 0) 1 556 := ⟨DL_law_c20.2.1, rfl⟩
theorem dL_law_556 : Dc cL_law 556 (.iload_n 3) 1 557 := ⟨DL_law_c20.2.2.1, rfl⟩
theorem dL_law_557 : Dc cL_law 557 (.iconst 3) 1 558 := ⟨DL_law_c20.2.2.2.1, rfl⟩
theorem dL_law_558 : Dc cL_law 558 (.iadd) 1 559 := ⟨DL_law_c20.2.2.2.2.1, rfl⟩
theorem dL_law_559 : Dc cL_law 559 (.iaload) 1 560 := ⟨DL_law_c20.2.2.2.2.2.1, rfl⟩
theorem dL_law_560 : Dc cL_law 560 (.invokevirtual 89) 3 563 := ⟨DL_law_c20.2.2.2.2.2.2.1, rfl⟩
theorem dL_law_563 : Db cL_law 563 (fun o => .if_icmp .eq o) 566 832 := ⟨269, DL_law_c20.2.2.2.2.2.2.2.1, rfl, rfl⟩
theorem dL_law_566 : Dc cL_law 566 (.iconst 0) 1 567 := ⟨DL_law_c20.2.2.2.2.2.2.2.2.1, rfl⟩
theorem dL_law_567 : Dc cL_law 567 (.ireturn) 1 568 := ⟨DL_law_c20.2.2.2.2.2.2.2.2.2.1, rfl⟩
theorem dL_law_568 : Dc cL_law 568 (.aload_n 1) 1 569 := ⟨DL_law_c20.2.2.2.2.2.2.2.2.2.2.1, rfl⟩
theorem dL_law_569 : Dc cL_law 569 (.aload_n 0) 1 570 := ⟨DL_law_c20.2.2.2.2.2.2.2.2.2.2.2.1, rfl⟩
theorem dL_law_570 : Dc cL_law 570 (.iload_n 3) 1 571 := ⟨DL_law_c20.2.2.2.2.2.2.2.2.2.2.2.2.1, rfl⟩
theorem dL_law_571 : Dc cL_law 571 (.iconst 1) 1 572 := ⟨DL_law_c20.2.2.2.2.2.2.2.2.2.2.2.2.2.1, rfl⟩
theorem dL_law_572 : Dc cL_law 572 (.iadd) 1 573 := ⟨DL_law_c20.2.2.2.2.2.2.2.2.2.2.2.2.2.2.1, rfl⟩
theorem dL_law_573 : Dc cL_law 573 (.iaload) 1 574 := ⟨DL_law_c20.2.2.2.2.2.2.2.2.2.2.2.2.2.2.2, rfl⟩
theorem DL_law_c21 : decode cL_law 574 = .ok (.aload_n 0, 1) ∧ decode cL_law 575 = .ok (.iload_n 3, 1) ∧ decode cL_law 576 = .ok (.iconst 2, 1) ∧ decode cL_law 577 = .ok (.iadd, 1) ∧ decode cL_law 578 = .ok (.iaload, 1) ∧ decode cL_law 579 = .ok (.invokevirtual 90, 3) ∧ decode cL_law 582 = .ok (.aload_n 2, 1) ∧ decode cL_law 583 = .ok (.aload_n 0, 1) ∧ decode cL_law 584 = .ok (.iload_n 3, 1) ∧ decode cL_law 585 = .ok (.iconst 1, 1) ∧ decode cL_law 586 = .ok (.iadd, 1) ∧ decode cL_law 587 = .ok (.iaload, 1) ∧ decode cL_law 588 = .ok (.aload_n 0, 1) ∧ decode cL_law 589 = .ok (.iload_n 3, 1) ∧ decode cL_law 590 = .ok (.iconst 2, 1) ∧ decode cL_law 591 = .ok (.iadd, 1) := by decide +kernel
theorem dL_law_574 : Dc cL_law 574 (.aload_n 0) 1 575 := ⟨DL_law_c21.1, rfl⟩
theorem dL_law_575 : Dc cL_law 575 (.iload_n 3) 1 576 := ⟨DL_law_c21.2.1, rfl⟩
theorem dL_law_576 : Dc cL_law 576 (.iconst 2) 1 577 := ⟨DL_law_c21.2.2.1, rfl⟩
theorem dL_law_577 : Dc cL_law 577 (.iadd) 1 578 := ⟨DL_law_c21.2.2.2.1, rfl⟩
theorem dL_law_578 : Dc cL_law 578 (.iaload) 1 579 := ⟨DL_law_c21.2.2.2.2.1, rfl⟩
theorem dL_law_579 : Dc cL_law 579 (.invokevirtual 90) 3 582 := ⟨DL_law_c21.2.2.2.2.2.1, rfl⟩
theorem dL_law_582 : Dc cL_law 582 (.aload_n 2) 1 583 := ⟨DL_law_c21.2.2.2.2.2.2.1, rfl⟩
theorem dL_law_583 : Dc cL_law 583 (.aload_n 0) 1 584 := ⟨DL_law_c21.2.2.2.2.2.2.2.1, rfl⟩
theorem dL_law_584 : Dc cL_law 584 (.iload_n 3) 1 585 := ⟨DL_law_c21.2.2.2.2.2.2.2.2.1, rfl⟩
theorem dL_law_585 : Dc cL_law 585 (.iconst 1) 1 586 := ⟨DL_law_c21.2.2.2.2.2.2.2.2.2.1, rfl⟩
theorem dL_law_586 : Dc cL_law 586 (.iadd) 1 587 := ⟨DL_law_c21.2.2.2.2.2.2.2.2.2.2.1, rfl⟩
theorem dL_law_587 : Dc cL_law 587 (.iaload) 1 588 := ⟨DL_law_c21.2.2.2.2.2.2.2.2.2.2.2.1, rfl⟩
theorem dL_law_588 : Dc cL_law 588 (.aload_n 0) 1 589 := ⟨DL_law_c21.2.2.2.2.2.2.2.2.2.2.2.2.1, rfl⟩
theorem dL_law_589 : Dc cL_law 589 (.iload_n 3) 1 590 := ⟨DL_law_c21.2.2.2.2.2.2.2.2.2.2.2.2.2.1, rfl⟩
theorem dL_law_590 : Dc cL_law 590 (.iconst 2) 1 591 := ⟨DL_law_c21.2.2.2.2.2.2.2.2.2.2.2.2.2.2.1, rfl⟩
theorem dL_law_591 : Dc cL_law 591 (.iadd) 1 592 := ⟨DL_law_c21.2.2.2.2.2.2.2.2.2.2.2.2.2.2.2, rfl⟩
theorem DL_law_c22 : decode cL_law 592 = .ok (.iaload, 1) ∧ decode cL_law 593 = .ok (.invokevirtual 93, 3) ∧ decode cL_law 596 = .ok (.if_icmp .eq 236, 3) ∧ decode cL_law 599 = .ok (.iconst 0, 1) ∧ decode cL_law 600 = .ok (.ireturn, 1) ∧ decode cL_law 601 = .ok (.aload_n 1, 1) ∧ decode cL_law 602 = .ok (.aload_n 0, 1) ∧ decode cL_law 603 = .ok (.iload_n 3, 1) ∧ decode cL_law 604 = .ok (.iconst 1, 1) ∧ decode cL_law 605 = .ok (.iadd, 1) ∧ decode cL_law 606 = .ok (.iaload, 1) ∧ decode cL_law 607 = .ok (.invokevirtual 94, 3) ∧ decode cL_law 610 = .ok (.aload_n 2, 1) ∧ decode cL_law 611 = .ok (.aload_n 0, 1) ∧ decode cL_law 612 = .ok (.iload_n 3, 1) ∧ decode cL_law 613 = .ok (.iconst 1, 1) := by decide +kernel
theorem dL_law_592 : Dc cL_law 592 (.iaload) 1 593 := ⟨DL_law_c22.1, rfl⟩
theorem dL_law_593 : Dc cL_law 593 (.invokevirtual 93) 3 596 := ⟨DL_law_c22.2.1, rfl⟩
theorem dL_law_596 : Db cL_law 596 (fun o => .if_icmp .eq o) 599 832 := ⟨236, DL_law_c22.2.2.1, rfl, rfl⟩
theorem dL_law_599 : Dc cL_law 599 (.iconst 0) 1 600 := ⟨DL_law_c22.2.2.2.1, rfl⟩
theorem dL_law_600 : Dc cL_law 600 (.ireturn) 1 601 := ⟨DL_law_c22.2.2.2.2.1, rfl⟩
theorem dL_law_601 : Dc cL_law 601 (.aload_n 1) 1 602 := ⟨DL_law_c22.2.2.2.2.2.1, rfl⟩
theorem dL_law_602 : Dc cL_law 602 (.aload_n 0) 1 603 := ⟨DL_law_c22.2.2.2.2.2.2.1, rfl⟩
theorem dL_law_603 : Dc cL_law 603 (.iload_n 3) 1 604 := ⟨DL_law_c22.2.2.2.2.2.2.2.1, rfl⟩
theorem dL_law_604 : Dc cL_law 604 (.iconst 1) 1 605 := ⟨DL_law_c22.2.2.2.2.2.2.2.2.1, rfl⟩
theorem dL_law_605 : Dc cL_law 605 (.iadd) 1 606 := ⟨DL_law_c22.2.2.2.2.2.2.2.2.2.1, rfl⟩
theorem dL_law_606 : Dc cL_law 606 (.iaload) 1 607 := ⟨DL_law_c22.2.2.2.2.2.2.2.2.2.2.1, rfl⟩
theorem dL_law_607 : Dc cL_law 607 (.invokevirtual 94) 3 610 := ⟨DL_law_c22.2.2.2.2.2.2.2.2.2.2.2.1, rfl⟩
theorem dL_law_610 : Dc cL_law 610 (.aload_n 2) 1 611 := ⟨DL_law_c22.2.2.2.2.2.2.2.2.2.2.2.2.1, rfl⟩
theorem dL_law_611 : Dc cL_law 611 (.aload_n 0) 1 612 := ⟨DL_law_c22.2.2.2.2.2.2.2.2.2.2.2.2.2.1, rfl⟩
theorem dL_law_612 : Dc cL_law 612 (.iload_n 3) 1 613 := ⟨DL_law_c22.2.2.2.2.2.2.2.2.2.2.2.2.2.2.1, rfl⟩
theorem dL_law_613 : Dc cL_law 613 (.iconst 1) 1 614 := ⟨DL_law_c22.2.2.2.2.2.2.2.2.2.2.2.2.2.2.2, rfl⟩
theorem DL_law_c23 : decode cL_law 614 = .ok (.iadd, 1) ∧ decode cL_law 615 = .ok (.iaload, 1) ∧ decode cL_law 616 = .ok (.invokevirtual 97, 3) ∧ decode cL_law 619 = .ok (.if_icmp .eq 213, 3) ∧ decode cL_law 622 = .ok (.iconst 0, 1) ∧ decode cL_law 623 = .ok (.ireturn, 1) ∧ decode cL_law 624 = .ok (.aload_n 1, 1) ∧ decode cL_law 625 = .ok (.aload_n 0, 1) ∧ decode cL_law 626 = .ok (.iload_n 3, 1) ∧ decode cL_law 627 = .ok (.iconst 1, 1) ∧ decode cL_law 628 = .ok (.iadd, 1) ∧ decode cL_law 629 = .ok (.iaload, 1) ∧ decode cL_law 630 = .ok (.aload_n 0, 1) ∧ decode cL_law 631 = .ok (.iload_n 3, 1) ∧ decode cL_law 632 = .ok (.iconst 2, 1) ∧ decode cL_law 633 = .ok (.iadd, 1) := by decide +kernel
theorem dL_law_614 : Dc cL_law 614 (.iadd) 1 615 := ⟨DL_law_c23.1, rfl⟩
theorem dL_law_615 : Dc cL_law 615 (.iaload) 1 616 := ⟨DL_law_c23.2.1, rfl⟩
theorem dL_law_616 : Dc cL_law 616 (.invokevirtual 97) 3 619 := ⟨DL_law_c23.2.2.1, rfl⟩
theorem dL_law_619 : Db cL_law 619 (fun o => .if_icmp .eq o) 622 832 := ⟨213, DL_law_c23.2.2.2.1, rfl, rfl⟩
theorem dL_law_622 : Dc cL_law 622 (.iconst 0) 1 623 := ⟨DL_law_c23.2.2.2.2.1, rfl⟩
theorem dL_law_623 : Dc cL_law 623 (.ireturn) 1 624 := ⟨DL_law_c23.2.2.2.2.2.1, rfl⟩
theorem dL_law_624 : Dc cL_law 624 (.aload_n 1) 1 625 := ⟨DL_law_c23.2.2.2.2.2.2.1, rfl⟩
theorem dL_law_625 : Dc cL_law 625 (.aload_n 0) 1 626 := ⟨DL_law_c23.2.2.2.2.2.2.2.1, rfl⟩
theorem dL_law_626 : Dc cL_law 626 (.iload_n 3) 1 627 := ⟨DL_law_c23.2.2.2.2.2.2.2.2.1, rfl⟩
theorem dL_law_627 : Dc cL_law 627 (.iconst 1) 1 628 := ⟨DL_law_c23.2.2.2.2.2.2.2.2.2.1, rfl⟩
theorem dL_law_628 : Dc cL_law 628 (.iadd) 1 629 := ⟨DL_law_c23.2.2.2.2.2.2.2.2.2.2.1, rfl⟩
theorem dL_law_629 : Dc cL_law 629 (.iaload) 1 630 := ⟨DL_law_c23.2.2.2.2.2.2.2.2.2.2.2.1, rfl⟩
theorem dL_law_630 : Dc cL_law 630 (.aload_n 0) 1 631 := ⟨DL_law_c23.2.2.2.2.2.2.2.2.2.2.2.2.1, rfl⟩
theorem dL_law_631 : Dc cL_law 631 (.iload_n 3) 1 632 := ⟨DL_law_c23.2.2.2.2.2.2.2.2.2.2.2.2.2.1, rfl⟩
theorem dL_law_632 : Dc cL_law 632 (.iconst 2) 1 633 := ⟨DL_law_c23.2.2.2.2.2.2.2.2.2.2.2.2.2.2.1, rfl⟩
theorem dL_law_633 : Dc cL_law 633 (.iadd) 1 634 := ⟨DL_law_c23.2.2.2.2.2.2.2.2.2.2.2.2.2.2.2, rfl⟩
theorem DL_law_c24 : decode cL_law 634 = .ok (.iaload, 1) ∧ decode cL_law 635 = .ok (.aload_n 0, 1) ∧ decode cL_law 636 = .ok (.iload_n 3, 1) ∧ decode cL_law 637 = .ok (.iconst 3, 1) ∧ decode cL_law 638 = .ok (.iadd, 1) ∧ decode cL_law 639 = .ok (.iaload, 1) ∧ decode cL_law 640 = .ok (.invokevirtual 98, 3) ∧ decode cL_law 643 = .ok (.aload_n 2, 1) ∧ decode cL_law 644 = .ok (.aload_n 0, 1) ∧ decode cL_law 645 = .ok (.iload_n 3, 1) ∧ decode cL_law 646 = .ok (.iconst 1, 1) ∧ decode cL_law 647 = .ok (.iadd, 1) ∧ decode cL_law 648 = .ok (.iaload, 1) ∧ decode cL_law 649 = .ok (.aload_n 0, 1) ∧ decode cL_law 650 = .ok (.iload_n 3, 1) ∧ decode cL_law 651 = .ok (.iconst 2, 1) := by decide +kernel
theorem dL_law_634 : Dc cL_law 634 (.iaload) 1 635 := ⟨DL_law_c24.1, rfl⟩
theorem dL_law_635 : Dc cL_law 635 (.aload_n 0) 1 636 := ⟨DL_law_c24.2.1, rfl⟩
theorem dL_law_636 : Dc cL_law 636 (.iload_n 3) 1 637 := ⟨DL_law_c24.2.2.1, rfl⟩
theorem dL_law_637 : Dc cL_law 637 (.iconst 3) 1 638 := ⟨DL_law_c24.2.2.2.1, rfl⟩
theorem dL_law_638 : Dc cL_law 638 (.iadd) 1 639 := ⟨DL_law_c24.2.2.2.2.1, rfl⟩
theorem dL_law_639 : Dc cL_law 639 (.iaload) 1 640 := ⟨DL_law_c24.2.2.2.2.2.1, rfl⟩
theorem dL_law_640 : Dc cL_law 640 (.invokevirtual 98) 3 643 := ⟨DL_law_c24.2.2.2.2.2.2.1, rfl⟩
theorem dL_law_643 : Dc cL_law 643 (.aload_n 2) 1 644 := ⟨DL_law_c24.2.2.2.2.2.2.2.1, rfl⟩
theorem dL_law_644 : Dc cL_law 644 (.aload_n 0) 1 645 := ⟨DL_law_c24.2.2.2.2.2.2.2.2.1, rfl⟩
theorem dL_law_645 : Dc cL_law 645 (.iload_n 3) 1 646 := ⟨DL_law_c24.2.2.2.2.2.2.2.2.2.1, rfl⟩
theorem dL_law_646 : Dc cL_law 646 (.iconst 1) 1 647 := ⟨DL_law_c24.2.2.2.2.2.2.2.2.2.2.1, rfl⟩
theorem dL_law_647 : Dc cL_law 647 (.iadd) 1 648 := ⟨DL_law_c24.2.2.2.2.2.2.2.2.2.2.2.1, rfl⟩
theorem dL_law_648 : Dc cL_law 648 (.iaload) 1 649 := ⟨DL_law_c24.2.2.2.2.2.2.2.2.2.2.2.2.1, rfl⟩
theorem dL_law_649 : Dc cL_law 649 (.aload_n 0) 1 650 := ⟨DL_law_c24.2.2.2.2.2.2.2.2.2.2.2.2.2.1, rfl⟩
theorem dL_law_650 : Dc cL_law 650 (.iload_n 3) 1 651 := ⟨DL_law_c24.2.2.2.2.2.2.2.2.2.2.2.2.2.2.1, rfl⟩
theorem dL_law_651 : Dc cL_law 651 (.iconst 2) 1 652 := ⟨DL_law_c24.2.2.2.2.2.2.2.2.2.2.2.2.2.2.2, rfl⟩
theorem DL_law_c25 : decode cL_law 652 = .ok (.iadd, 1) ∧ decode cL_law 653 = .ok (.iaload, 1) ∧ decode cL_law 654 = .ok (.aload_n 0, 1) ∧ decode cL_law 655 = .ok (.iload_n 3, 1) ∧ decode cL_law 656 = .ok (.iconst 3, 1) ∧ decode cL_law 657 = .ok (.iadd, 1) ∧ decode cL_law 658 = .ok (.iaload, 1) ∧ decode cL_law 659 = .ok (.invokevirtual 101, 3) ∧ decode cL_law 662 = .ok (.if_icmp .eq 170, 3) ∧ decode cL_law 665 = .ok (.iconst 0, 1) ∧ decode cL_law 666 = .ok (.ireturn, 1) ∧ decode cL_law 667 = .ok (.aload_n 1, 1) ∧ decode cL_law 668 = .ok (.aload_n 0, 1) ∧ decode cL_law 669 = .ok (.iload_n 3, 1) ∧ decode cL_law 670 = .ok (.iconst 1, 1) ∧ decode cL_law 671 = .ok (.iadd, 1) := by decide +kernel
theorem dL_law_652 : Dc cL_law 652 (.iadd) 1 653 := ⟨DL_law_c25.1, rfl⟩
theorem dL_law_653 : Dc cL_law 653 (.iaload) 1 654 := ⟨DL_law_c25.2.1, rfl⟩
theorem dL_law_654 : Dc cL_law 654 (.aload_n 0) 1 655 := ⟨DL_law_c25.2.2.1, rfl⟩
theorem dL_law_655 : Dc cL_law 655 (.iload_n 3) 1 656 := ⟨DL_law_c25.2.2.2.1, rfl⟩
theorem dL_law_656 : Dc cL_law 656 (.iconst 3) 1 657 := ⟨DL_law_c25.2.2.2.2.1, rfl⟩
theorem dL_law_657 : Dc cL_law 657 (.iadd) 1 658 := ⟨DL_law_c25.2.2.2.2.2.1, rfl⟩
theorem dL_law_658 : Dc cL_law 658 (.iaload) 1 659 := ⟨DL_law_c25.2.2.2.2.2.2.1, rfl⟩
theorem dL_law_659 : Dc cL_law 659 (.invokevirtual 101) 3 662 := ⟨DL_law_c25.2.2.2.2.2.2.2.1, rfl⟩
theorem dL_law_662 : Db cL_law 662 (fun o => .if_icmp .eq o) 665 832 := ⟨170, DL_law_c25.2.2.2.2.2.2.2.2.1, rfl, rfl⟩
theorem dL_law_665 : Dc cL_law 665 (.iconst 0) 1 666 := ⟨DL_law_c25.2.2.2.2.2.2.2.2.2.1, rfl⟩
theorem dL_law_666 : Dc cL_law 666 (.ireturn) 1 667 := ⟨DL_law_c25.2.2.2.2.2.2.2.2.2.2.1, rfl⟩
theorem dL_law_667 : Dc cL_law 667 (.aload_n 1) 1 668 := ⟨DL_law_c25.2.2.2.2.2.2.2.2.2.2.2.1, rfl⟩
theorem dL_law_668 : Dc cL_law 668 (.aload_n 0) 1 669 := ⟨DL_law_c25.2.2.2.2.2.2.2.2.2.2.2.2.1, rfl⟩
theorem dL_law_669 : Dc cL_law 669 (.iload_n 3) 1 670 := ⟨DL_law_c25.2.2.2.2.2.2.2.2.2.2.2.2.2.1, rfl⟩
theorem dL_law_670 : Dc cL_law 670 (.iconst 1) 1 671 := ⟨DL_law_c25.2.2.2.2.2.2.2.2.2.2.2.2.2.2.1, rfl⟩
theorem dL_law_671 : Dc cL_law 671 (.iadd) 1 672 := ⟨DL_law_c25.2.2.2.2.2.2.2.2.2.2.2.2.2.2.2, rfl⟩
theorem DL_law_c26 : decode cL_law 672 = .ok (.iaload, 1) ∧ decode cL_law 673 = .ok (.invokevirtual 102, 3) ∧ decode cL_law 676 = .ok (.aload_n 2, 1) ∧ decode cL_law 677 = .ok (.aload_n 0, 1) ∧ decode cL_law 678 = .ok (.iload_n 3, 1) ∧ decode cL_law 679 = .ok (.iconst 1, 1) ∧ decode cL_law 680 = .ok (.iadd, 1) ∧ decode cL_law 681 = .ok (.iaload, 1) ∧ decode cL_law 682 = .ok (.invokevirtual 105, 3) ∧ decode cL_law 685 = .ok (.if_icmp .eq 147, 3) ∧ decode cL_law 688 = .ok (.iconst 0, 1) ∧ decode cL_law 689 = .ok (.ireturn, 1) ∧ decode cL_law 690 = .ok (.aload_n 1, 1) ∧ decode cL_law 691 = .ok (.aload_n 0, 1) ∧ decode cL_law 692 = .ok (.iload_n 3, 1) ∧ decode cL_law 693 = .ok (.iconst 1, 1) := by decide +kernel
theorem dL_law_672 : Dc cL_law 672 (.iaload) 1 673 := ⟨DL_law_c26.1, rfl⟩
theorem dL_law_673 : Dc cL_law 673 (.invokevirtual 102) 3 676 := ⟨DL_law_c26.2.1, rfl⟩
theorem dL_law_676 : Dc cL_law 676 (.aload_n 2) 1 677 := ⟨DL_law_c26.2.2.1, rfl⟩
theorem dL_law_677 : Dc cL_law 677 (.aload_n 0) 1 678 := ⟨DL_law_c26.2.2.2.1, rfl⟩
theorem dL_law_678 : Dc cL_law 678 (.iload_n 3) 1 679 := ⟨DL_law_c26.2.2.2.2.1, rfl⟩
theorem dL_law_679 : Dc cL_law 679 (.iconst 1) 1 680 := ⟨DL_law_c26.2.2.2.2.2.1, rfl⟩
theorem dL_law_680 : Dc cL_law 680 (.iadd) 1 681 := ⟨DL_law_c26.2.2.2.2.2.2.1, rfl⟩
theorem dL_law_681 : Dc cL_law 681 (.iaload) 1 682 := ⟨DL_law_c26.2.2.2.2.2.2.2.1, rfl⟩
theorem dL_law_682 : Dc cL_law 682 (.invokevirtual 105) 3 685 := ⟨DL_law_c26.2.2.2.2.2.2.2.2.1, rfl⟩
theorem dL_law_685 : Db cL_law 685 (fun o => .if_icmp .eq o) 688 832 := ⟨147, DL_law_c26.2.2.2.2.2.2.2.2.2.1, rfl, rfl⟩
theorem dL_law_688 : Dc cL_law 688 (.iconst 0) 1 689 := ⟨DL_law_c26.2.2.2.2.2.2.2.2.2.2.1, rfl⟩
theorem dL_law_689 : Dc cL_law 689 (.ireturn) 1 690 := ⟨DL_law_c26.2.2.2.2.2.2.2.2.2.2.2.1, rfl⟩
theorem dL_law_690 : Dc cL_law 690 (.aload_n 1) 1 691 := ⟨DL_law_c26.2.2.2.2.2.2.2.2.2.2.2.2.1, rfl⟩
theorem dL_law_691 : Dc cL_law 691 (.aload_n 0) 1 692 := ⟨DL_law_c26.2.2.2.2.2.2.2.2.2.2.2.2.2.1, rfl⟩
theorem dL_law_692 : Dc cL_law 692 (.iload_n 3) 1 693 := ⟨DL_law_c26.2.2.2.2.2.2.2.2.2.2.2.2.2.2.1, rfl⟩
theorem dL_law_693 : Dc cL_law 693 (.iconst 1) 1 694 := ⟨DL_law_c26.2.2.2.2.2.2.2.2.2.2.2.2.2.2.2, rfl⟩
theorem DL_law_c27 : decode cL_law 694 = .ok (.iadd, 1) ∧ decode cL_law 695 = .ok (.iaload, 1) ∧ decode cL_law 696 = .ok (.aload_n 0, 1) ∧ decode cL_law 697 = .ok (.iload_n 3, 1) ∧ decode cL_law 698 = .ok (.iconst 2, 1) ∧ decode cL_law 699 = .ok (.iadd, 1) ∧ decode cL_law 700 = .ok (.iaload, 1) ∧ decode cL_law 701 = .ok (.invokevirtual 106, 3) ∧ decode cL_law 704 = .ok (.aload_n 2, 1) ∧ decode cL_law 705 = .ok (.aload_n 0, 1) ∧ decode cL_law 706 = .ok (.iload_n 3, 1) ∧ decode cL_law 707 = .ok (.iconst 1, 1) ∧ decode cL_law 708 = .ok (.iadd, 1) ∧ decode cL_law 709 = .ok (.iaload, 1) ∧ decode cL_law 710 = .ok (.aload_n 0, 1) ∧ decode cL_law 711 = .ok (.iload_n 3, 1) := by decide +kernel
theorem dL_law_694 : Dc cL_law 694 (.iadd) 1 695 := ⟨DL_law_c27.1, rfl⟩
theorem dL_law_695 : Dc cL_law 695 (.iaload) 1 696 := ⟨DL_law_c27.2.1, rfl⟩
theorem dL_law_696 : Dc cL_law 696 (.aload_n 0) 1 697 := ⟨DL_law_c27.2.2.1, rfl⟩
theorem dL_law_697 : Dc cL_law 697 (.iload_n 3) 1 698 := ⟨DL_law_c27.2.2.2.1, rfl⟩
theorem dL_law_698 : Dc cL_law 698 (.iconst 2) 1 699 := ⟨DL_law_c27.2.2.2.2.1, rfl⟩
theorem dL_law_699 : Dc cL_law 699 (.iadd) 1 700 := ⟨DL_law_c27.2.2.2.2.2.1, rfl⟩
theorem dL_law_700 : Dc cL_law 700 (.iaload) 1 701 := ⟨DL_law_c27.2.2.2.2.2.2.1, rfl⟩
theorem dL_law_701 : Dc cL_law 701 (.invokevirtual 106) 3 704 := ⟨DL_law_c27.2.2.2.2.2.2.2.1, rfl⟩
theorem dL_law_704 : Dc cL_law 704 (.aload_n 2) 1 705 := ⟨DL_law_c27.2.2.2.2.2.2.2.2.1, rfl⟩
theorem dL_law_705 : Dc cL_law 705 (.aload_n 0) 1 706 := ⟨DL_law_c27.2.2.2.2.2.2.2.2.2.1, rfl⟩
theorem dL_law_706 : Dc cL_law 706 (.iload_n 3) 1 707 := ⟨DL_law_c27.2.2.2.2.2.2.2.2.2.2.1, rfl⟩
theorem dL_law_707 : Dc cL_law 707 (.iconst 1) 1 708 := ⟨DL_law_c27.2.2.2.2.2.2.2.2.2.2.2.1, rfl⟩
theorem dL_law_708 : Dc cL_law 708 (.iadd) 1 709 := ⟨DL_law_c27.2.2.2.2.2.2.2.2.2.2.2.2.1, rfl⟩
theorem dL_law_709 : Dc cL_law 709 (.iaload) 1 710 := ⟨DL_law_c27.2.2.2.2.2.2.2.2.2.2.2.2.2.1, rfl⟩
theorem dL_law_710 : Dc cL_law 710 (.aload_n 0) 1 711 := ⟨DL_law_c27.2.2.2.2.2.2.2.2.2.2.2.2.2.2.1, rfl⟩
theorem dL_law_711 : Dc cL_law 711 (.iload_n 3) 1 712 := ⟨DL_law_c27.2.2.2.2.2.2.2.2.2.2.2.2.2.2.2, rfl⟩
theorem DL_law_c28 : decode cL_law 712 = .ok (.iconst 2, 1) ∧ decode cL_law 713 = .ok (.iadd, 1) ∧ decode cL_law 714 = .ok (.iaload, 1) ∧ decode cL_law 715 = .ok (.invokevirtual 109, 3) ∧ decode cL_law 718 = .ok (.if_icmp .eq 114, 3) ∧ decode cL_law 721 = .ok (.iconst 0, 1) ∧ decode cL_law 722 = .ok (.ireturn, 1) ∧ decode cL_law 723 = .ok (.aload_n 1, 1) ∧ decode cL_law 724 = .ok (.aload_n 0, 1) ∧ decode cL_law 725 = .ok (.iload_n 3, 1) ∧ decode cL_law 726 = .ok (.iconst 1, 1) ∧ decode cL_law 727 = .ok (.iadd, 1) ∧ decode cL_law 728 = .ok (.iaload, 1) ∧ decode cL_law 729 = .ok (.invokevirtual 110, 3) ∧ decode cL_law 732 = .ok (.aload_n 2, 1) ∧ decode cL_law 733 = .ok (.aload_n 0, 1) := by decide +kernel
theorem dL_law_712 : Dc cL_law 712 (.iconst 2) 1 713 := ⟨DL_law_c28.1, rfl⟩
theorem dL_law_713 : Dc cL_law 713 (.iadd) 1 714 := ⟨DL_law_c28.2.1, rfl⟩
theorem dL_law_714 : Dc cL_law 714 (.iaload) 1 715 := ⟨DL_law_c28.2.2.1, rfl⟩
theorem dL_law_715 : Dc cL_law 715 (.invokevirtual 109) 3 718 := ⟨DL_law_c28.2.2.2.1, rfl⟩
theorem dL_law_718 : Db cL_law 718 (fun o => .if_icmp .eq o) 721 832 := ⟨114, DL_law_c28.2.2.2.2.1, rfl, rfl⟩
theorem dL_law_721 : Dc cL_law 721 (.iconst 0) 1 722 := ⟨DL_law_c28.2.2.2.2.2.1, rfl⟩
theorem dL_law_722 : Dc cL_law 722 (.ireturn) 1 723 := ⟨DL_law_c28.2.2.2.2.2.2.1, rfl⟩
theorem dL_law_723 : Dc cL_law 723 (.aload_n 1) 1 724 := ⟨DL_law_c28.2.2.2.2.2.2.2.1, rfl⟩
theorem dL_law_724 : Dc cL_law 724 (.aload_n 0) 1 725 := ⟨DL_law_c28.2.2.2.2.2.2.2.2.1, rfl⟩
theorem dL_law_725 : Dc cL_law 725 (.iload_n 3) 1 726 := ⟨DL_law_c28.2.2.2.2.2.2.2.2.2.1, rfl⟩
theorem dL_law_726 : Dc cL_law 726 (.iconst 1) 1 727 := ⟨DL_law_c28.2.2.2.2.2.2.2.2.2.2.1, rfl⟩
theorem dL_law_727 : Dc cL_law 727 (.iadd) 1 728 := ⟨DL_law_c28.2.2.2.2.2.2.2.2.2.2.2.1, rfl⟩
theorem dL_law_728 : Dc cL_law 728 (.iaload) 1 729 := ⟨DL_law_c28.2.2.2.2.2.2.2.2.2.2.2.2.1, rfl⟩
theorem dL_law_729 : Dc cL_law 729 (.invokevirtual 110) 3 732 := ⟨DL_law_c28.2.2.2.2.2.2.2.2.2.2.2.2.2.1, rfl⟩
theorem dL_law_732 : Dc cL_law 732 (.aload_n 2) 1 733 := ⟨DL_law_c28.2.2.2.2.2.2.2.2.2.2.2.2.2.2.1, rfl⟩
theorem dL_law_733 : Dc cL_law 733 (.aload_n 0) 1 734 := ⟨DL_law_c28.2.2.2.2.2.2.2.2.2.2.2.2.2.2.2, rfl⟩
theorem DL_law_c29 : decode cL_law 734 = .ok (.iload_n 3, 1) ∧ decode cL_law 735 = .ok (.iconst 1, 1) ∧ decode cL_law 736 = .ok (.iadd, 1) ∧ decode cL_law 737 = .ok (.iaload, 1) ∧ decode cL_law 738 = .ok (.invokevirtual 113, 3) ∧ decode cL_law 741 = .ok (.if_icmp .eq 91, 3) ∧ decode cL_law 744 = .ok (.iconst 0, 1) ∧ decode cL_law 745 = .ok (.ireturn, 1) ∧ decode cL_law 746 = .ok (.aload_n 1, 1) ∧ decode cL_law 747 = .ok (.aload_n 0, 1) ∧ decode cL_law 748 = .ok (.iload_n 3, 1) ∧ decode cL_law 749 = .ok (.iconst 1, 1) ∧ decode cL_law 750 = .ok (.iadd, 1) ∧ decode cL_law 751 = .ok (.iaload, 1) ∧ decode cL_law 752 = .ok (.aload_n 0, 1) ∧ decode cL_law 753 = .ok (.iload_n 3, 1) := by decide +kernel
theorem dL_law_734 : Dc cL_law 734 (.iload_n 3) 1 735 := ⟨DL_law_c29.1, rfl⟩
theorem dL_law_735 : Dc cL_law 735 (.iconst 1) 1 736 := ⟨DL_law_c29.2.1, rfl⟩
theorem dL_law_736 : Dc cL_law 736 (.iadd) 1 737 := ⟨DL_law_c29.2.2.1, rfl⟩
theorem dL_law_737 : Dc cL_law 737 (.iaload) 1 738 := ⟨DL_law_c29.2.2.2.1, rfl⟩
theorem dL_law_738 : Dc cL_law 738 (.invokevirtual 113) 3 741 := ⟨DL_law_c29.2.2.2.2.1, rfl⟩
theorem dL_law_741 : Db cL_law 741 (fun o => .if_icmp .eq o) 744 832 := ⟨91, DL_law_c29.2.2.2.2.2.1, rfl, rfl⟩
theorem dL_law_744 : Dc cL_law 744 (.iconst 0) 1 745 := ⟨DL_law_c29.2.2.2.2.2.2.1, rfl⟩
theorem dL_law_745 : Dc cL_law 745 (.ireturn) 1 746 := ⟨DL_law_c29.2.2.2.2.2.2.2.1, rfl⟩
theorem dL_law_746 : Dc cL_law 746 (.aload_n 1) 1 747 := ⟨DL_law_c29.2.2.2.2.2.2.2.2.1, rfl⟩
theorem dL_law_747 : Dc cL_law 747 (.aload_n 0) 1 748 := ⟨DL_law_c29.2.2.2.2.2.2.2.2.2.1, rfl⟩
theorem dL_law_748 : Dc cL_law 748 (.iload_n 3) 1 749 := ⟨DL_law_c29.2.2.2.2.2.2.2.2.2.2.1, rfl⟩
theorem dL_law_749 : Dc cL_law 749 (.iconst 1) 1 750 := ⟨DL_law_c29.2.2.2.2.2.2.2.2.2.2.2.1, rfl⟩
theorem dL_law_750 : Dc cL_law 750 (.iadd) 1 751 := ⟨DL_law_c29.2.2.2.2.2.2.2.2.2.2.2.2.1, rfl⟩
theorem dL_law_751 : Dc cL_law 751 (.iaload) 1 752 := ⟨DL_law_c29.2.2.2.2.2.2.2.2.2.2.2.2.2.1, rfl⟩
theorem dL_law_752 : Dc cL_law 752 (.aload_n 0) 1 753 := ⟨DL_law_c29.2.2.2.2.2.2.2.2.2.2.2.2.2.2.1, rfl⟩
theorem dL_law_753 : Dc cL_law 753 (.iload_n 3) 1 754 := ⟨DL_law_c29.2.2.2.2.2.2.2.2.2.2.2.2.2.2.2, rfl⟩
theorem DL_law_c30 : decode cL_law 754 = .ok (.iconst 2, 1) ∧ decode cL_law 755 = .ok (.iadd, 1) ∧ decode cL_law 756 = .ok (.iaload, 1) ∧ decode cL_law 757 = .ok (.aload_n 0, 1) ∧ decode cL_law 758 = .ok (.iload_n 3, 1) ∧ decode cL_law 759 = .ok (.iconst 3, 1) ∧ decode cL_law 760 = .ok (.iadd, 1) ∧ decode cL_law 761 = .ok (.iaload, 1) ∧ decode cL_law 762 = .ok (.invokevirtual 114, 3) ∧ decode cL_law 765 = .ok (.aload_n 2, 1) ∧ decode cL_law 766 = .ok (.aload_n 0, 1) ∧ decode cL_law 767 = .ok (.iload_n 3, 1) ∧ decode cL_law 768 = .ok (.iconst 1, 1) ∧ decode cL_law 769 = .ok (.iadd, 1) ∧ decode cL_law 770 = .ok (.iaload, 1) ∧ decode cL_law 771 = .ok (.aload_n 0, 1) := by decide +kernel
theorem dL_law_754 : Dc cL_law 754 (.iconst 2) 1 755 := ⟨DL_law_c30.1, rfl⟩
theorem dL_law_755 : Dc cL_law 755 (.iadd) 1 756 := ⟨DL_law_c30.2.1, rfl⟩
theorem dL_law_756 : Dc cL_law 756 (.iaload) 1 757 := ⟨DL_law_c30.2.2.1, rfl⟩
theorem dL_law_757 : Dc cL_law 757 (.aload_n 0) 1 758 := ⟨DL_law_c30.2.2.2.1, rfl⟩
theorem dL_law_758 : Dc cL_law 758 (.iload_n 3) 1 759 := ⟨DL_law_c30.2.2.2.2.1, rfl⟩
theorem dL_law_759 : Dc cL_law 759 (.iconst 3) 1 760 := ⟨DL_law_c30.2.2.2.2.2.1, rfl⟩
theorem dL_law_760 : Dc cL_law 760 (.iadd) 1 761 := ⟨DL_law_c30.2.2.2.2.2.2.1, rfl⟩
theorem dL_law_761 : Dc cL_law 761 (.iaload) 1 762 := ⟨DL_law_c30.2.2.2.2.2.2.2.1, rfl⟩
theorem dL_law_762 : Dc cL_law 762 (.invokevirtual 114) 3 765 := ⟨DL_law_c30.2.2.2.2.2.2.2.2.1, rfl⟩
theorem dL_law_765 : Dc cL_law 765 (.aload_n 2) 1 766 := ⟨DL_law_c30.2.2.2.2.2.2.2.2.2.1, rfl⟩
theorem dL_law_766 : Dc cL_law 766 (.aload_n 0) 1 767 := ⟨DL_law_c30.2.2.2.2.2.2.2.2.2.2.1, rfl⟩
theorem dL_law_767 : Dc cL_law 767 (.iload_n 3) 1 768 := ⟨DL_law_c30.2.2.2.2.2.2.2.2.2.2.2.1, rfl⟩
theorem dL_law_768 : Dc cL_law 768 (.iconst 1) 1 769 := ⟨DL_law_c30.2.2.2.2.2.2.2.2.2.2.2.2.1, rfl⟩
theorem dL_law_769 : Dc cL_law 769 (.iadd) 1 770 := ⟨DL_law_c30.2.2.2.2.2.2.2.2.2.2.2.2.2.1, rfl⟩
theorem dL_law_770 : Dc cL_law 770 (.iaload) 1 771 := ⟨DL_law_c30.2.2.2.2.2.2.2.2.2.2.2.2.2.2.1, rfl⟩
theorem dL_law_771 : Dc cL_law 771 (.aload_n 0) 1 772 := ⟨DL_law_c30.2.2.2.2.2.2.2.2.2.2.2.2.2.2.2, rfl⟩
theorem DL_law_c31 : decode cL_law 772 = .ok (.iload_n 3, 1) ∧ decode cL_law 773 = .ok (.iconst 2, 1) ∧ decode cL_law 774 = .ok (.iadd, 1) ∧ decode cL_law 775 = .ok (.iaload, 1) ∧ decode cL_law 776 = .ok (.aload_n 0, 1) ∧ decode cL_law 777 = .ok (.iload_n 3, 1) ∧ decode cL_law 778 = .ok (.iconst 3, 1) ∧ decode cL_law 779 = .ok (.iadd, 1) ∧ decode cL_law 780 = .ok (.iaload, 1) ∧ decode cL_law 781 = .ok (.invokevirtual 117, 3) ∧ decode cL_law 784 = .ok (.if_icmp .eq 48, 3) ∧ decode cL_law 787 = .ok (.iconst 0, 1) ∧ decode cL_law 788 = .ok (.ireturn, 1) ∧ decode cL_law 789 = .ok (.aload_n 1, 1) ∧ decode cL_law 790 = .ok (.aload_n 0, 1) ∧ decode cL_law 791 = .ok (.iload_n 3, 1) := by decide +kernel
theorem dL_law_772 : Dc cL_law 772 (.iload_n 3) 1 773 := ⟨DL_law_c31.1, rfl⟩
theorem dL_law_773 : Dc cL_law 773 (.iconst 2) 1 774 := ⟨DL_law_c31.2.1, rfl⟩
theorem dL_law_774 : Dc cL_law 774 (.iadd) 1 775 := ⟨DL_law_c31.2.2.1, rfl⟩
theorem dL_law_775 : Dc cL_law 775 (.iaload) 1 776 := ⟨DL_law_c31.2.2.2.1, rfl⟩
theorem dL_law_776 : Dc cL_law 776 (.aload_n 0) 1 777 := ⟨DL_law_c31.2.2.2.2.1, rfl⟩
theorem dL_law_777 : Dc cL_law 777 (.iload_n 3) 1 778 := ⟨DL_law_c31.2.2.2.2.2.1, rfl⟩
theorem dL_law_778 : Dc cL_law 778 (.iconst 3) 1 779 := ⟨DL_law_c31.2.2.2.2.2.2.1, rfl⟩
theorem dL_law_779 : Dc cL_law 779 (.iadd) 1 780 := ⟨DL_law_c31.2.2.2.2.2.2.2.1, rfl⟩
theorem dL_law_780 : Dc cL_law 780 (.iaload) 1 781 := ⟨DL_law_c31.2.2.2.2.2.2.2.2.1, rfl⟩
theorem dL_law_781 : Dc cL_law 781 (.invokevirtual 117) 3 784 := ⟨DL_law_c31.2.2.2.2.2.2.2.2.2.1, rfl⟩
theorem dL_law_784 : Db cL_law 784 (fun o => .if_icmp .eq o) 787 832 := ⟨48, DL_law_c31.2.2.2.2.2.2.2.2.2.2.1, rfl, rfl⟩
theorem dL_law_787 : Dc cL_law 787 (.iconst 0) 1 788 := ⟨DL_law_c31.2.2.2.2.2.2.2.2.2.2.2.1, rfl⟩
theorem dL_law_788 : Dc cL_law 788 (.ireturn) 1 789 := ⟨DL_law_c31.2.2.2.2.2.2.2.2.2.2.2.2.1, rfl⟩
theorem dL_law_789 : Dc cL_law 789 (.aload_n 1) 1 790 := ⟨DL_law_c31.2.2.2.2.2.2.2.2.2.2.2.2.2.1, rfl⟩
theorem dL_law_790 : Dc cL_law 790 (.aload_n 0) 1 791 := ⟨DL_law_c31.2.2.2.2.2.2.2.2.2.2.2.2.2.2.1, rfl⟩
theorem dL_law_791 : Dc cL_law 791 (.iload_n 3) 1 792 := ⟨DL_law_c31.2.2.2.2.2.2.2.2.2.2.2.2.2.2.2, rfl⟩
theorem DL_law_c32 : decode cL_law 792 = .ok (.iconst 1, 1) ∧ decode cL_law 793 = .ok (.iadd, 1) ∧ decode cL_law 794 = .ok (.iaload, 1) ∧ decode cL_law 795 = .ok (.aload_n 0, 1) ∧ decode cL_law 796 = .ok (.iload_n 3, 1) ∧ decode cL_law 797 = .ok (.iconst 2, 1) ∧ decode cL_law 798 = .ok (.iadd, 1) ∧ decode cL_law 799 = .ok (.iaload, 1) ∧ decode cL_law 800 = .ok (.aload_n 0, 1) ∧ decode cL_law 801 = .ok (.iload_n 3, 1) ∧ decode cL_law 802 = .ok (.iconst 3, 1) ∧ decode cL_law 803 = .ok (.iadd, 1) ∧ decode cL_law 804 = .ok (.iaload, 1) ∧ decode cL_law 805 = .ok (.invokevirtual 118, 3) ∧ decode cL_law 808 = .ok (.aload_n 2, 1) ∧ decode cL_law 809 = .ok (.aload_n 0, 1) := by decide +kernel
theorem dL_law_792 : Dc cL_law 792 (.iconst 1) 1 793 := ⟨DL_law_c32.1, rfl⟩
theorem dL_law_793 : Dc cL_law 793 (.iadd) 1 794 := ⟨DL_law_c32.2.1, rfl⟩
theorem dL_law_794 : Dc cL_law 794 (.iaload) 1 795 := ⟨DL_law_c32.2.2.1, rfl⟩
theorem dL_law_795 : Dc cL_law 795 (.aload_n 0) 1 796 := ⟨DL_law_c32.2.2.2.1, rfl⟩
theorem dL_law_796 : Dc cL_law 796 (.iload_n 3) 1 797 := ⟨DL_law_c32.2.2.2.2.1, rfl⟩
theorem dL_law_797 : Dc cL_law 797 (.iconst 2) 1 798 := ⟨DL_law_c32.2.2.2.2.2.1, rfl⟩
theorem dL_law_798 : Dc cL_law 798 (.iadd) 1 799 := ⟨DL_law_c32.2.2.2.2.2.2.1, rfl⟩
theorem dL_law_799 : Dc cL_law 799 (.iaload) 1 800 := ⟨DL_law_c32.2.2.2.2.2.2.2.1, rfl⟩
theorem dL_law_800 : Dc cL_law 800 (.aload_n 0) 1 801 := ⟨DL_law_c32.2.2.2.2.2.2.2.2.1, rfl⟩
theorem dL_law_801 : Dc cL_law 801 (.iload_n 3) 1 802 := ⟨DL_law_c32.2.2.2.2.2.2.2.2.2.1, rfl⟩
theorem dL_law_802 : Dc cL_law 802 (.iconst 3) 1 803 := ⟨DL_law_c32.2.2.2.2.2.2.2.2.2.2.1, rfl⟩
theorem dL_law_803 : Dc cL_law 803 (.iadd) 1 804 := ⟨DL_law_c32.2.2.2.2.2.2.2.2.2.2.2.1, rfl⟩
theorem dL_law_804 : Dc cL_law 804 (.iaload) 1 805 := ⟨DL_law_c32.2.2.2.2.2.2.2.2.2.2.2.2.1, rfl⟩
theorem dL_law_805 : Dc cL_law 805 (.invokevirtual 118) 3 808 := ⟨DL_law_c32.2.2.2.2.2.2.2.2.2.2.2.2.2.1, rfl⟩
theorem dL_law_808 : Dc cL_law 808 (.aload_n 2) 1 809 := ⟨DL_law_c32.2.2.2.2.2.2.2.2.2.2.2.2.2.2.1, rfl⟩
theorem dL_law_809 : Dc cL_law 809 (.aload_n 0) 1 810 := ⟨DL_law_c32.2.2.2.2.2.2.2.2.2.2.2.2.2.2.2, rfl⟩
theorem DL_law_c33 : decode cL_law 810 = .ok (.iload_n 3, 1) ∧ decode cL_law 811 = .ok (.iconst 1, 1) ∧ decode cL_law 812 = .ok (.iadd, 1) ∧ decode cL_law 813 = .ok (.iaload, 1) ∧ decode cL_law 814 = .ok (.aload_n 0, 1) ∧ decode cL_law 815 = .ok (.iload_n 3, 1) ∧ decode cL_law 816 = .ok (.iconst 2, 1) ∧ decode cL_law 817 = .ok (.iadd, 1) ∧ decode cL_law 818 = .ok (.iaload, 1) ∧ decode cL_law 819 = .ok (.aload_n 0, 1) ∧ decode cL_law 820 = .ok (.iload_n 3, 1) ∧ decode cL_law 821 = .ok (.iconst 3, 1) ∧ decode cL_law 822 = .ok (.iadd, 1) ∧ decode cL_law 823 = .ok (.iaload, 1) ∧ decode cL_law 824 = .ok (.invokevirtual 121, 3) ∧ decode cL_law 827 = .ok (.if_icmp .eq 5, 3) := by decide +kernel
theorem dL_law_810 : Dc cL_law 810 (.iload_n 3) 1 811 := ⟨DL_law_c33.1, rfl⟩
theorem dL_law_811 : Dc cL_law 811 (.iconst 1) 1 812 := ⟨DL_law_c33.2.1, rfl⟩
theorem dL_law_812 : Dc cL_law 812 (.iadd) 1 813 := ⟨DL_law_c33.2.2.1, rfl⟩
theorem dL_law_813 : Dc cL_law 813 (.iaload) 1 814 := ⟨DL_law_c33.2.2.2.1, rfl⟩
theorem dL_law_814 : Dc cL_law 814 (.aload_n 0) 1 815 := ⟨DL_law_c33.2.2.2.2.1, rfl⟩
theorem dL_law_815 : Dc cL_law 815 (.iload_n 3) 1 816 := ⟨DL_law_c33.2.2.2.2.2.1, rfl⟩
theorem dL_law_816 : Dc cL_law 816 (.iconst 2) 1 817 := ⟨DL_law_c33.2.2.2.2.2.2.1, rfl⟩
theorem dL_law_817 : Dc cL_law 817 (.iadd) 1 818 := ⟨DL_law_c33.2.2.2.2.2.2.2.1, rfl⟩
theorem dL_law_818 : Dc cL_law 818 (.iaload) 1 819 := ⟨DL_law_c33.2.2.2.2.2.2.2.2.1, rfl⟩
theorem dL_law_819 : Dc cL_law 819 (.aload_n 0) 1 820 := ⟨DL_law_c33.2.2.2.2.2.2.2.2.2.1, rfl⟩
theorem dL_law_820 : Dc cL_law 820 (.iload_n 3) 1 821 := ⟨DL_law_c33.2.2.2.2.2.2.2.2.2.2.1, rfl⟩
theorem dL_law_821 : Dc cL_law 821 (.iconst 3) 1 822 := ⟨DL_law_c33.2.2.2.2.2.2.2.2.2.2.2.1, rfl⟩
theorem dL_law_822 : Dc cL_law 822 (.iadd) 1 823 := ⟨DL_law_c33.2.2.2.2.2.2.2.2.2.2.2.2.1, rfl⟩
theorem dL_law_823 : Dc cL_law 823 (.iaload) 1 824 := ⟨DL_law_c33.2.2.2.2.2.2.2.2.2.2.2.2.2.1, rfl⟩
theorem dL_law_824 : Dc cL_law 824 (.invokevirtual 121) 3 827 := ⟨DL_law_c33.2.2.2.2.2.2.2.2.2.2.2.2.2.2.1, rfl⟩
theorem dL_law_827 : Db cL_law 827 (fun o => .if_icmp .eq o) 830 832 := ⟨5, DL_law_c33.2.2.2.2.2.2.2.2.2.2.2.2.2.2.2, rfl, rfl⟩
theorem DL_law_c34 : decode cL_law 830 = .ok (.iconst 0, 1) ∧ decode cL_law 831 = .ok (.ireturn, 1) ∧ decode cL_law 832 = .ok (.iinc 3 4, 3) ∧ decode cL_law 835 = .ok (.goto (-817), 3) ∧ decode cL_law 838 = .ok (.iconst 1, 1) ∧ decode cL_law 839 = .ok (.ireturn, 1) := by decide +kernel
theorem dL_law_830 : Dc cL_law 830 (.iconst 0) 1 831 := ⟨DL_law_c34.1, rfl⟩
theorem dL_law_831 : Dc cL_law 831 (.ireturn) 1 832 := ⟨DL_law_c34.2.1, rfl⟩
theorem dL_law_832 : Dc cL_law 832 (.iinc 3 4) 3 835 := ⟨DL_law_c34.2.2.1, rfl⟩
theorem dL_law_835 : Db cL_law 835 .goto 838 18 := ⟨-817, DL_law_c34.2.2.2.1, rfl, rfl⟩
theorem dL_law_838 : Dc cL_law 838 (.iconst 1) 1 839 := ⟨DL_law_c34.2.2.2.2.1, rfl⟩
theorem dL_law_839 : Dc cL_law 839 (.ireturn) 1 840 := ⟨DL_law_c34.2.2.2.2.2, rfl⟩
