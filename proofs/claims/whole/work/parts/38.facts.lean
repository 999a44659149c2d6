/-! Links that the rows don't print: Math.max, Math.min, System.arraycopy, Object's constructor, classes to make. -/
theorem gmaxS : Cond.static Lib.Math.max.name ∈ lw_gtb := gm 98 (by decide +kernel) rfl
theorem gmaxC : Cond.code Lib.Math.max.name Lib.Math.max.code 2 (some .int) ∈ lw_gtb := gm 99 (by decide +kernel) rfl
theorem gminS : Cond.static Lib.Math.min.name ∈ lw_gtb := gm 289 (by decide +kernel) rfl
theorem gminC : Cond.code Lib.Math.min.name Lib.Math.min.code 2 (some .int) ∈ lw_gtb := gm 290 (by decide +kernel) rfl
theorem gmaxI : Cond.initialized "java/lang/Math" ∈ lw_gtb := gm 51 (by decide +kernel) rfl
theorem gmax_X3_7 : Cond.methodLink RX3 7 Lib.Math.max.name ∈ lw_gtb := gm 97 (by decide +kernel) rfl
theorem gmax_X6_255 : Cond.methodLink RX6 255 Lib.Math.min.name ∈ lw_gtb := gm 288 (by decide +kernel) rfl
theorem gmax_X6_264 : Cond.methodLink RX6 264 Lib.Math.max.name ∈ lw_gtb := gm 673 (by decide +kernel) rfl
theorem gac_X6 : Cond.methodLink RX6 273 arraycopyName ∈ lw_gtb := gm 291 (by decide +kernel) rfl
theorem gac_X3 : Cond.methodLink RX3 80 arraycopyName ∈ lw_gtb := gm 370 (by decide +kernel) rfl
theorem gacS : Cond.static arraycopyName ∈ lw_gtb := gm 292 (by decide +kernel) rfl
theorem gacN : Cond.native arraycopyName ∈ lw_gtb := gm 293 (by decide +kernel) rfl
theorem gacI : Cond.initialized "java/lang/System" ∈ lw_gtb := gm 56 (by decide +kernel) rfl
