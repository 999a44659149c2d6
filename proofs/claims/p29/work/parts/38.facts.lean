/-! Links that the rows don't print: Math.max, Math.min, System.arraycopy, Object's constructor, classes to make. -/
theorem gmaxS : Cond.static Lib.Math.max.name ∈ lw_gtb := gm 72 (by decide +kernel) rfl
theorem gmaxC : Cond.code Lib.Math.max.name Lib.Math.max.code 2 (some .int) ∈ lw_gtb := gm 73 (by decide +kernel) rfl
theorem gminS : Cond.static Lib.Math.min.name ∈ lw_gtb := gm 242 (by decide +kernel) rfl
theorem gminC : Cond.code Lib.Math.min.name Lib.Math.min.code 2 (some .int) ∈ lw_gtb := gm 243 (by decide +kernel) rfl
theorem gmaxI : Cond.initialized "java/lang/Math" ∈ lw_gtb := gm 26 (by decide +kernel) rfl
theorem gmax_X3_7 : Cond.methodLink RX3 7 Lib.Math.max.name ∈ lw_gtb := gm 71 (by decide +kernel) rfl
theorem gmax_X6_255 : Cond.methodLink RX6 255 Lib.Math.min.name ∈ lw_gtb := gm 241 (by decide +kernel) rfl
theorem gmax_X6_264 : Cond.methodLink RX6 264 Lib.Math.max.name ∈ lw_gtb := gm 379 (by decide +kernel) rfl
theorem gac_X6 : Cond.methodLink RX6 273 arraycopyName ∈ lw_gtb := gm 244 (by decide +kernel) rfl
theorem gac_X3 : Cond.methodLink RX3 80 arraycopyName ∈ lw_gtb := gm 521 (by decide +kernel) rfl
theorem gacS : Cond.static arraycopyName ∈ lw_gtb := gm 245 (by decide +kernel) rfl
theorem gacN : Cond.native arraycopyName ∈ lw_gtb := gm 246 (by decide +kernel) rfl
theorem gacI : Cond.initialized "java/lang/System" ∈ lw_gtb := gm 30 (by decide +kernel) rfl
