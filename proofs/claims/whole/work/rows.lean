section
-- ===== PART A: goes FIRST, ahead of the names: the tables' words, and 'selects' of the private methods out of them =====
/-- a private method of a class that the tables say can be made, by its rows of tables_1 -/
def lw_okq (q : MethodName × Nat) : Prop := (q.1.cls ≠ "java/lang/invoke/MethodHandle" ∧ q.1.cls ≠ "java/lang/invoke/VarHandle") ∧ Cond.instantiable q.1.cls q.2 ∈ tables_1 ∧ Cond.privateMethod q.1 ∈ tables_1 ∧ Cond.instanceMethod q.1 ∈ tables_1
theorem lw_p0 : lw_okq (⟨"TryLoops$History", "dropOldest", "()V"⟩, 2) := ⟨⟨by decide +kernel, by decide +kernel⟩, List.mem_of_getElem? (i := 113) (by decide +kernel), List.mem_of_getElem? (i := 228) (by decide +kernel), List.mem_of_getElem? (i := 229) (by decide +kernel)⟩
theorem lw_p1 : lw_okq (⟨"TryLoops$Row", "put", "(II)V"⟩, 2) := ⟨⟨by decide +kernel, by decide +kernel⟩, List.mem_of_getElem? (i := 31) (by decide +kernel), List.mem_of_getElem? (i := 270) (by decide +kernel), List.mem_of_getElem? (i := 271) (by decide +kernel)⟩
theorem lw_p2 : lw_okq (⟨"TryLoops$Shelf", "hasPlace", "(I)Z"⟩, 7) := ⟨⟨by decide +kernel, by decide +kernel⟩, List.mem_of_getElem? (i := 46) (by decide +kernel), List.mem_of_getElem? (i := 279) (by decide +kernel), List.mem_of_getElem? (i := 280) (by decide +kernel)⟩
theorem lw_p3 : lw_okq (⟨"TryLoops", "canGeneralise", "(II)Z"⟩, 8) := ⟨⟨by decide +kernel, by decide +kernel⟩, List.mem_of_getElem? (i := 17) (by decide +kernel), List.mem_of_getElem? (i := 330) (by decide +kernel), List.mem_of_getElem? (i := 331) (by decide +kernel)⟩
theorem lw_p4 : lw_okq (⟨"TryLoops$Shelf", "look", "([III)I"⟩, 7) := ⟨⟨by decide +kernel, by decide +kernel⟩, List.mem_of_getElem? (i := 46) (by decide +kernel), List.mem_of_getElem? (i := 342) (by decide +kernel), List.mem_of_getElem? (i := 343) (by decide +kernel)⟩
theorem lw_p5 : lw_okq (⟨"TryLoops", "makeLoop", "(IIIII)I"⟩, 8) := ⟨⟨by decide +kernel, by decide +kernel⟩, List.mem_of_getElem? (i := 17) (by decide +kernel), List.mem_of_getElem? (i := 347) (by decide +kernel), List.mem_of_getElem? (i := 348) (by decide +kernel)⟩
theorem lw_p6 : lw_okq (⟨"TryLoops", "leastPeriod", "(I)I"⟩, 8) := ⟨⟨by decide +kernel, by decide +kernel⟩, List.mem_of_getElem? (i := 17) (by decide +kernel), List.mem_of_getElem? (i := 360) (by decide +kernel), List.mem_of_getElem? (i := 361) (by decide +kernel)⟩
theorem lw_p7 : lw_okq (⟨"TryLoops", "repeatsBy", "(II)Z"⟩, 8) := ⟨⟨by decide +kernel, by decide +kernel⟩, List.mem_of_getElem? (i := 17) (by decide +kernel), List.mem_of_getElem? (i := 364) (by decide +kernel), List.mem_of_getElem? (i := 365) (by decide +kernel)⟩
theorem lw_p8 : lw_okq (⟨"TryLoops", "riseAt", "(III)I"⟩, 8) := ⟨⟨by decide +kernel, by decide +kernel⟩, List.mem_of_getElem? (i := 17) (by decide +kernel), List.mem_of_getElem? (i := 368) (by decide +kernel), List.mem_of_getElem? (i := 369) (by decide +kernel)⟩
theorem lw_p9 : lw_okq (⟨"TryLoops$Text", "readItem", "()Z"⟩, 4) := ⟨⟨by decide +kernel, by decide +kernel⟩, List.mem_of_getElem? (i := 130) (by decide +kernel), List.mem_of_getElem? (i := 446) (by decide +kernel), List.mem_of_getElem? (i := 447) (by decide +kernel)⟩
theorem lw_p10 : lw_okq (⟨"TryLoops$Text", "next", "()C"⟩, 4) := ⟨⟨by decide +kernel, by decide +kernel⟩, List.mem_of_getElem? (i := 130) (by decide +kernel), List.mem_of_getElem? (i := 451) (by decide +kernel), List.mem_of_getElem? (i := 452) (by decide +kernel)⟩
theorem lw_p11 : lw_okq (⟨"TryLoops$Text", "readStep", "(Z)Z"⟩, 4) := ⟨⟨by decide +kernel, by decide +kernel⟩, List.mem_of_getElem? (i := 130) (by decide +kernel), List.mem_of_getElem? (i := 458) (by decide +kernel), List.mem_of_getElem? (i := 459) (by decide +kernel)⟩
theorem lw_p12 : lw_okq (⟨"TryLoops$Text", "readNumber", "(II)I"⟩, 4) := ⟨⟨by decide +kernel, by decide +kernel⟩, List.mem_of_getElem? (i := 130) (by decide +kernel), List.mem_of_getElem? (i := 546) (by decide +kernel), List.mem_of_getElem? (i := 547) (by decide +kernel)⟩
theorem lw_p13 : lw_okq (⟨"TryLoops$Text", "readBody", "()Z"⟩, 4) := ⟨⟨by decide +kernel, by decide +kernel⟩, List.mem_of_getElem? (i := 130) (by decide +kernel), List.mem_of_getElem? (i := 551) (by decide +kernel), List.mem_of_getElem? (i := 552) (by decide +kernel)⟩
theorem lw_p14 : lw_okq (⟨"TryLoops$Text", "take", "(C)Z"⟩, 4) := ⟨⟨by decide +kernel, by decide +kernel⟩, List.mem_of_getElem? (i := 130) (by decide +kernel), List.mem_of_getElem? (i := 555) (by decide +kernel), List.mem_of_getElem? (i := 556) (by decide +kernel)⟩
theorem lw_p15 : lw_okq (⟨"TryLoops", "countVerbRows", "()I"⟩, 8) := ⟨⟨by decide +kernel, by decide +kernel⟩, List.mem_of_getElem? (i := 17) (by decide +kernel), List.mem_of_getElem? (i := 612) (by decide +kernel), List.mem_of_getElem? (i := 613) (by decide +kernel)⟩
def lw_privs_1 : List (MethodName × Nat) := [(⟨"TryLoops$History", "dropOldest", "()V"⟩, 2), (⟨"TryLoops$Row", "put", "(II)V"⟩, 2), (⟨"TryLoops$Shelf", "hasPlace", "(I)Z"⟩, 7), (⟨"TryLoops", "canGeneralise", "(II)Z"⟩, 8), (⟨"TryLoops$Shelf", "look", "([III)I"⟩, 7), (⟨"TryLoops", "makeLoop", "(IIIII)I"⟩, 8), (⟨"TryLoops", "leastPeriod", "(I)I"⟩, 8), (⟨"TryLoops", "repeatsBy", "(II)Z"⟩, 8), (⟨"TryLoops", "riseAt", "(III)I"⟩, 8), (⟨"TryLoops$Text", "readItem", "()Z"⟩, 4), (⟨"TryLoops$Text", "next", "()C"⟩, 4), (⟨"TryLoops$Text", "readStep", "(Z)Z"⟩, 4), (⟨"TryLoops$Text", "readNumber", "(II)I"⟩, 4), (⟨"TryLoops$Text", "readBody", "()Z"⟩, 4), (⟨"TryLoops$Text", "take", "(C)Z"⟩, 4), (⟨"TryLoops", "countVerbRows", "()I"⟩, 8)]
theorem lw_r1 : ∀ q ∈ lw_privs_1, lw_okq q := List.forall_mem_cons.mpr ⟨lw_p0, List.forall_mem_cons.mpr ⟨lw_p1, List.forall_mem_cons.mpr ⟨lw_p2, List.forall_mem_cons.mpr ⟨lw_p3, List.forall_mem_cons.mpr ⟨lw_p4, List.forall_mem_cons.mpr ⟨lw_p5, List.forall_mem_cons.mpr ⟨lw_p6, List.forall_mem_cons.mpr ⟨lw_p7, List.forall_mem_cons.mpr ⟨lw_p8, List.forall_mem_cons.mpr ⟨lw_p9, List.forall_mem_cons.mpr ⟨lw_p10, List.forall_mem_cons.mpr ⟨lw_p11, List.forall_mem_cons.mpr ⟨lw_p12, List.forall_mem_cons.mpr ⟨lw_p13, List.forall_mem_cons.mpr ⟨lw_p14, List.forall_mem_cons.mpr ⟨lw_p15, fun _ h => absurd h List.not_mem_nil⟩⟩⟩⟩⟩⟩⟩⟩⟩⟩⟩⟩⟩⟩⟩⟩
theorem lw_p16 : lw_okq (⟨"TryLoops", "countCommon", "(IIZ)I"⟩, 8) := ⟨⟨by decide +kernel, by decide +kernel⟩, List.mem_of_getElem? (i := 17) (by decide +kernel), List.mem_of_getElem? (i := 620) (by decide +kernel), List.mem_of_getElem? (i := 621) (by decide +kernel)⟩
theorem lw_p17 : lw_okq (⟨"TryLoops", "areAlike", "(IIIIZ)Z"⟩, 8) := ⟨⟨by decide +kernel, by decide +kernel⟩, List.mem_of_getElem? (i := 17) (by decide +kernel), List.mem_of_getElem? (i := 624) (by decide +kernel), List.mem_of_getElem? (i := 625) (by decide +kernel)⟩
theorem lw_p18 : lw_okq (⟨"TryLoops", "countZeroStrides", "(II)I"⟩, 8) := ⟨⟨by decide +kernel, by decide +kernel⟩, List.mem_of_getElem? (i := 17) (by decide +kernel), List.mem_of_getElem? (i := 633) (by decide +kernel), List.mem_of_getElem? (i := 634) (by decide +kernel)⟩
theorem lw_p19 : lw_okq (⟨"TryLoops", "isTurn", "(IIII)Z"⟩, 8) := ⟨⟨by decide +kernel, by decide +kernel⟩, List.mem_of_getElem? (i := 17) (by decide +kernel), List.mem_of_getElem? (i := 641) (by decide +kernel), List.mem_of_getElem? (i := 642) (by decide +kernel)⟩
theorem lw_p20 : lw_okq (⟨"TryLoops", "turnsInRange", "(II)I"⟩, 8) := ⟨⟨by decide +kernel, by decide +kernel⟩, List.mem_of_getElem? (i := 17) (by decide +kernel), List.mem_of_getElem? (i := 649) (by decide +kernel), List.mem_of_getElem? (i := 650) (by decide +kernel)⟩
theorem lw_p21 : lw_okq (⟨"TryLoopsModel", "save", "()V"⟩, 14) := ⟨⟨by decide +kernel, by decide +kernel⟩, List.mem_of_getElem? (i := 665) (by decide +kernel), List.mem_of_getElem? (i := 729) (by decide +kernel), List.mem_of_getElem? (i := 730) (by decide +kernel)⟩
theorem lw_p22 : lw_okq (⟨"TryLoopsModel", "sizeOf", "(I)I"⟩, 14) := ⟨⟨by decide +kernel, by decide +kernel⟩, List.mem_of_getElem? (i := 665) (by decide +kernel), List.mem_of_getElem? (i := 743) (by decide +kernel), List.mem_of_getElem? (i := 744) (by decide +kernel)⟩
theorem lw_p23 : lw_okq (⟨"TryLoopsModel", "doStep", "(II)Z"⟩, 14) := ⟨⟨by decide +kernel, by decide +kernel⟩, List.mem_of_getElem? (i := 665) (by decide +kernel), List.mem_of_getElem? (i := 747) (by decide +kernel), List.mem_of_getElem? (i := 748) (by decide +kernel)⟩
theorem lw_p24 : lw_okq (⟨"TryLoopsModel", "isTry", "(I)Z"⟩, 14) := ⟨⟨by decide +kernel, by decide +kernel⟩, List.mem_of_getElem? (i := 665) (by decide +kernel), List.mem_of_getElem? (i := 763) (by decide +kernel), List.mem_of_getElem? (i := 764) (by decide +kernel)⟩
theorem lw_p25 : lw_okq (⟨"TryLoopsModel", "areLike", "(II)Z"⟩, 14) := ⟨⟨by decide +kernel, by decide +kernel⟩, List.mem_of_getElem? (i := 665) (by decide +kernel), List.mem_of_getElem? (i := 771) (by decide +kernel), List.mem_of_getElem? (i := 772) (by decide +kernel)⟩
theorem lw_p26 : lw_okq (⟨"TryLoopsModel", "verbOf", "(II)I"⟩, 14) := ⟨⟨by decide +kernel, by decide +kernel⟩, List.mem_of_getElem? (i := 665) (by decide +kernel), List.mem_of_getElem? (i := 775) (by decide +kernel), List.mem_of_getElem? (i := 776) (by decide +kernel)⟩
theorem lw_p27 : lw_okq (⟨"TryLoopsModel", "newLoop", "(III)I"⟩, 14) := ⟨⟨by decide +kernel, by decide +kernel⟩, List.mem_of_getElem? (i := 665) (by decide +kernel), List.mem_of_getElem? (i := 779) (by decide +kernel), List.mem_of_getElem? (i := 780) (by decide +kernel)⟩
theorem lw_p28 : lw_okq (⟨"TryLoopsModel", "numberOf", "(II)I"⟩, 14) := ⟨⟨by decide +kernel, by decide +kernel⟩, List.mem_of_getElem? (i := 665) (by decide +kernel), List.mem_of_getElem? (i := 783) (by decide +kernel), List.mem_of_getElem? (i := 784) (by decide +kernel)⟩
theorem lw_p29 : lw_okq (⟨"TryLoopsModel", "stride", "(III)V"⟩, 14) := ⟨⟨by decide +kernel, by decide +kernel⟩, List.mem_of_getElem? (i := 665) (by decide +kernel), List.mem_of_getElem? (i := 787) (by decide +kernel), List.mem_of_getElem? (i := 788) (by decide +kernel)⟩
theorem lw_p30 : lw_okq (⟨"TryLoopsModel", "canFold", "(II)Z"⟩, 14) := ⟨⟨by decide +kernel, by decide +kernel⟩, List.mem_of_getElem? (i := 665) (by decide +kernel), List.mem_of_getElem? (i := 795) (by decide +kernel), List.mem_of_getElem? (i := 796) (by decide +kernel)⟩
theorem lw_p31 : lw_okq (⟨"TryLoopsModel", "isLoop", "(I)Z"⟩, 14) := ⟨⟨by decide +kernel, by decide +kernel⟩, List.mem_of_getElem? (i := 665) (by decide +kernel), List.mem_of_getElem? (i := 803) (by decide +kernel), List.mem_of_getElem? (i := 804) (by decide +kernel)⟩
def lw_privs_2 : List (MethodName × Nat) := [(⟨"TryLoops", "countCommon", "(IIZ)I"⟩, 8), (⟨"TryLoops", "areAlike", "(IIIIZ)Z"⟩, 8), (⟨"TryLoops", "countZeroStrides", "(II)I"⟩, 8), (⟨"TryLoops", "isTurn", "(IIII)Z"⟩, 8), (⟨"TryLoops", "turnsInRange", "(II)I"⟩, 8), (⟨"TryLoopsModel", "save", "()V"⟩, 14), (⟨"TryLoopsModel", "sizeOf", "(I)I"⟩, 14), (⟨"TryLoopsModel", "doStep", "(II)Z"⟩, 14), (⟨"TryLoopsModel", "isTry", "(I)Z"⟩, 14), (⟨"TryLoopsModel", "areLike", "(II)Z"⟩, 14), (⟨"TryLoopsModel", "verbOf", "(II)I"⟩, 14), (⟨"TryLoopsModel", "newLoop", "(III)I"⟩, 14), (⟨"TryLoopsModel", "numberOf", "(II)I"⟩, 14), (⟨"TryLoopsModel", "stride", "(III)V"⟩, 14), (⟨"TryLoopsModel", "canFold", "(II)Z"⟩, 14), (⟨"TryLoopsModel", "isLoop", "(I)Z"⟩, 14)]
theorem lw_r2 : ∀ q ∈ lw_privs_2, lw_okq q := List.forall_mem_cons.mpr ⟨lw_p16, List.forall_mem_cons.mpr ⟨lw_p17, List.forall_mem_cons.mpr ⟨lw_p18, List.forall_mem_cons.mpr ⟨lw_p19, List.forall_mem_cons.mpr ⟨lw_p20, List.forall_mem_cons.mpr ⟨lw_p21, List.forall_mem_cons.mpr ⟨lw_p22, List.forall_mem_cons.mpr ⟨lw_p23, List.forall_mem_cons.mpr ⟨lw_p24, List.forall_mem_cons.mpr ⟨lw_p25, List.forall_mem_cons.mpr ⟨lw_p26, List.forall_mem_cons.mpr ⟨lw_p27, List.forall_mem_cons.mpr ⟨lw_p28, List.forall_mem_cons.mpr ⟨lw_p29, List.forall_mem_cons.mpr ⟨lw_p30, List.forall_mem_cons.mpr ⟨lw_p31, fun _ h => absurd h List.not_mem_nil⟩⟩⟩⟩⟩⟩⟩⟩⟩⟩⟩⟩⟩⟩⟩⟩
theorem lw_p32 : lw_okq (⟨"TryLoopsModel", "playLoop", "(II)V"⟩, 14) := ⟨⟨by decide +kernel, by decide +kernel⟩, List.mem_of_getElem? (i := 665) (by decide +kernel), List.mem_of_getElem? (i := 815) (by decide +kernel), List.mem_of_getElem? (i := 816) (by decide +kernel)⟩
theorem lw_p33 : lw_okq (⟨"TryLoopsModel", "takeBody", "(I)V"⟩, 14) := ⟨⟨by decide +kernel, by decide +kernel⟩, List.mem_of_getElem? (i := 665) (by decide +kernel), List.mem_of_getElem? (i := 819) (by decide +kernel), List.mem_of_getElem? (i := 820) (by decide +kernel)⟩
theorem lw_p34 : lw_okq (⟨"TryLoopsModel", "playBody", "(I)V"⟩, 14) := ⟨⟨by decide +kernel, by decide +kernel⟩, List.mem_of_getElem? (i := 665) (by decide +kernel), List.mem_of_getElem? (i := 823) (by decide +kernel), List.mem_of_getElem? (i := 824) (by decide +kernel)⟩
theorem lw_p35 : lw_okq (⟨"TryLoopsModel", "turn", "(I)I"⟩, 14) := ⟨⟨by decide +kernel, by decide +kernel⟩, List.mem_of_getElem? (i := 665) (by decide +kernel), List.mem_of_getElem? (i := 827) (by decide +kernel), List.mem_of_getElem? (i := 828) (by decide +kernel)⟩
theorem lw_p36 : lw_okq (⟨"TryLoopsModel", "readText", "(Z)Z"⟩, 14) := ⟨⟨by decide +kernel, by decide +kernel⟩, List.mem_of_getElem? (i := 665) (by decide +kernel), List.mem_of_getElem? (i := 843) (by decide +kernel), List.mem_of_getElem? (i := 844) (by decide +kernel)⟩
theorem lw_p37 : lw_okq (⟨"TryLoopsModel", "readItem", "()I"⟩, 14) := ⟨⟨by decide +kernel, by decide +kernel⟩, List.mem_of_getElem? (i := 665) (by decide +kernel), List.mem_of_getElem? (i := 847) (by decide +kernel), List.mem_of_getElem? (i := 848) (by decide +kernel)⟩
theorem lw_p38 : lw_okq (⟨"TryLoopsModel", "sees", "(II)Z"⟩, 14) := ⟨⟨by decide +kernel, by decide +kernel⟩, List.mem_of_getElem? (i := 665) (by decide +kernel), List.mem_of_getElem? (i := 851) (by decide +kernel), List.mem_of_getElem? (i := 852) (by decide +kernel)⟩
theorem lw_p39 : lw_okq (⟨"TryLoopsModel", "readStep", "(Z)Z"⟩, 14) := ⟨⟨by decide +kernel, by decide +kernel⟩, List.mem_of_getElem? (i := 665) (by decide +kernel), List.mem_of_getElem? (i := 855) (by decide +kernel), List.mem_of_getElem? (i := 856) (by decide +kernel)⟩
theorem lw_p40 : lw_okq (⟨"TryLoopsModel", "number", "(II)I"⟩, 14) := ⟨⟨by decide +kernel, by decide +kernel⟩, List.mem_of_getElem? (i := 665) (by decide +kernel), List.mem_of_getElem? (i := 862) (by decide +kernel), List.mem_of_getElem? (i := 863) (by decide +kernel)⟩
theorem lw_p41 : lw_okq (⟨"TryLoopsModel", "takes", "(I)Z"⟩, 14) := ⟨⟨by decide +kernel, by decide +kernel⟩, List.mem_of_getElem? (i := 665) (by decide +kernel), List.mem_of_getElem? (i := 866) (by decide +kernel), List.mem_of_getElem? (i := 867) (by decide +kernel)⟩
theorem lw_p42 : lw_okq (⟨"TryLoopsModel", "sum", "()I"⟩, 14) := ⟨⟨by decide +kernel, by decide +kernel⟩, List.mem_of_getElem? (i := 665) (by decide +kernel), List.mem_of_getElem? (i := 890) (by decide +kernel), List.mem_of_getElem? (i := 891) (by decide +kernel)⟩
theorem lw_p43 : lw_okq (⟨"TryLoopsModel", "rowsOfVerbs", "()I"⟩, 14) := ⟨⟨by decide +kernel, by decide +kernel⟩, List.mem_of_getElem? (i := 665) (by decide +kernel), List.mem_of_getElem? (i := 894) (by decide +kernel), List.mem_of_getElem? (i := 895) (by decide +kernel)⟩
theorem lw_p44 : lw_okq (⟨"TryLoopsModel", "likeNumbers", "(II)I"⟩, 14) := ⟨⟨by decide +kernel, by decide +kernel⟩, List.mem_of_getElem? (i := 665) (by decide +kernel), List.mem_of_getElem? (i := 906) (by decide +kernel), List.mem_of_getElem? (i := 907) (by decide +kernel)⟩
theorem lw_p45 : lw_okq (⟨"TryLoopsModel", "tests", "(I)I"⟩, 14) := ⟨⟨by decide +kernel, by decide +kernel⟩, List.mem_of_getElem? (i := 665) (by decide +kernel), List.mem_of_getElem? (i := 922) (by decide +kernel), List.mem_of_getElem? (i := 923) (by decide +kernel)⟩
def lw_privs_3 : List (MethodName × Nat) := [(⟨"TryLoopsModel", "playLoop", "(II)V"⟩, 14), (⟨"TryLoopsModel", "takeBody", "(I)V"⟩, 14), (⟨"TryLoopsModel", "playBody", "(I)V"⟩, 14), (⟨"TryLoopsModel", "turn", "(I)I"⟩, 14), (⟨"TryLoopsModel", "readText", "(Z)Z"⟩, 14), (⟨"TryLoopsModel", "readItem", "()I"⟩, 14), (⟨"TryLoopsModel", "sees", "(II)Z"⟩, 14), (⟨"TryLoopsModel", "readStep", "(Z)Z"⟩, 14), (⟨"TryLoopsModel", "number", "(II)I"⟩, 14), (⟨"TryLoopsModel", "takes", "(I)Z"⟩, 14), (⟨"TryLoopsModel", "sum", "()I"⟩, 14), (⟨"TryLoopsModel", "rowsOfVerbs", "()I"⟩, 14), (⟨"TryLoopsModel", "likeNumbers", "(II)I"⟩, 14), (⟨"TryLoopsModel", "tests", "(I)I"⟩, 14)]
theorem lw_r3 : ∀ q ∈ lw_privs_3, lw_okq q := List.forall_mem_cons.mpr ⟨lw_p32, List.forall_mem_cons.mpr ⟨lw_p33, List.forall_mem_cons.mpr ⟨lw_p34, List.forall_mem_cons.mpr ⟨lw_p35, List.forall_mem_cons.mpr ⟨lw_p36, List.forall_mem_cons.mpr ⟨lw_p37, List.forall_mem_cons.mpr ⟨lw_p38, List.forall_mem_cons.mpr ⟨lw_p39, List.forall_mem_cons.mpr ⟨lw_p40, List.forall_mem_cons.mpr ⟨lw_p41, List.forall_mem_cons.mpr ⟨lw_p42, List.forall_mem_cons.mpr ⟨lw_p43, List.forall_mem_cons.mpr ⟨lw_p44, List.forall_mem_cons.mpr ⟨lw_p45, fun _ h => absurd h List.not_mem_nil⟩⟩⟩⟩⟩⟩⟩⟩⟩⟩⟩⟩⟩⟩
def lw_privs : List (MethodName × Nat) := lw_privs_1 ++ (lw_privs_2 ++ (lw_privs_3))
def lw_tbl : List Cond := k2_sels lw_privs ++ tables_1
theorem lw_privs_ok : ∀ q ∈ lw_privs, lw_okq q := by
  show ∀ q ∈ lw_privs_1 ++ (lw_privs_2 ++ (lw_privs_3)), lw_okq q
  exact List.forall_mem_append.mpr ⟨lw_r1, List.forall_mem_append.mpr ⟨lw_r2, lw_r3⟩⟩
def RX0 : String := "TryLoops$History"
def TX0 : u_T := fun k => match k with
  | 0 => ("TryLoops$History", "states", "[LTryLoops$State;", true)
  | _ => ("TryLoops$History", "count", "I", false)
def tyX0 : Nat → FieldType := fun k => match k with
  | 0 => .array (.object "TryLoops$State")
  | _ => .int
abbrev wsX00 : List Cond := u_ws RX0 TX0 2
theorem nmX0 : ∀ a, a < 2 → ∀ b, b < 2 → a ≠ b → (TX0 a).2.1 ≠ (TX0 b).2.1 := by decide +kernel
theorem tyX0_ok : ∀ k, k < 2 → parseFieldDescriptor (TX0 k).2.2.1 = some (tyX0 k) := by decide +kernel
abbrev cX0_init : ByteArray := prog_2_method_1_code
def yX0_init : MethodName := ⟨RX0, "<init>", "()V"⟩
abbrev cX0_push : ByteArray := prog_2_method_2_code
def yX0_push : MethodName := ⟨RX0, "push", "(LTryLoops$State;)V"⟩
abbrev cX0_pop : ByteArray := prog_2_method_3_code
def yX0_pop : MethodName := ⟨RX0, "pop", "(LTryLoops$State;)Z"⟩
abbrev cX0_dropOldest : ByteArray := prog_2_method_4_code
def yX0_dropOldest : MethodName := ⟨RX0, "dropOldest", "()V"⟩
def RX1 : String := "TryLoops$Play"
def TX1 : u_T := fun k => match k with
  | 0 => ("TryLoops$Play", "done", "I", false)
  | 1 => ("TryLoops$Play", "testsPassed", "I", false)
  | _ => ("TryLoops$Play", "reason", "I", false)
def tyX1 : Nat → FieldType := fun k => match k with
  | 0 => .int
  | 1 => .int
  | _ => .int
abbrev wsX10 : List Cond := u_ws RX1 TX1 3
theorem nmX1 : ∀ a, a < 3 → ∀ b, b < 3 → a ≠ b → (TX1 a).2.1 ≠ (TX1 b).2.1 := by decide +kernel
theorem tyX1_ok : ∀ k, k < 3 → parseFieldDescriptor (TX1 k).2.2.1 = some (tyX1 k) := by decide +kernel
abbrev cX1_init : ByteArray := prog_3_method_1_code
def yX1_init : MethodName := ⟨RX1, "<init>", "()V"⟩
abbrev cX1_begin : ByteArray := prog_3_method_2_code
def yX1_begin : MethodName := ⟨RX1, "begin", "()V"⟩
abbrev cX1_doTurns : ByteArray := prog_3_method_3_code
def yX1_doTurns : MethodName := ⟨RX1, "doTurns", "(LTryLoops$Row;LTryLoops$Shelf;II)V"⟩
abbrev cX1_doTurn : ByteArray := prog_3_method_4_code
def yX1_doTurn : MethodName := ⟨RX1, "doTurn", "(LTryLoops$Row;LTryLoops$Shelf;II)Z"⟩
def RX2 : String := "TryLoops$Row"
def TX2 : u_T := fun k => match k with
  | 0 => ("TryLoops$Row", "cells", "[I", true)
  | _ => ("TryLoops$Row", "hand", "I", false)
def tyX2 : Nat → FieldType := fun k => match k with
  | 0 => .array .int
  | _ => .int
abbrev wsX20 : List Cond := u_ws RX2 TX2 2
theorem nmX2 : ∀ a, a < 2 → ∀ b, b < 2 → a ≠ b → (TX2 a).2.1 ≠ (TX2 b).2.1 := by decide +kernel
theorem tyX2_ok : ∀ k, k < 2 → parseFieldDescriptor (TX2 k).2.2.1 = some (tyX2 k) := by decide +kernel
abbrev cX2_init : ByteArray := prog_4_method_1_code
def yX2_init : MethodName := ⟨RX2, "<init>", "()V"⟩
abbrev cX2_valueAt : ByteArray := prog_4_method_2_code
def yX2_valueAt : MethodName := ⟨RX2, "valueAt", "(I)I"⟩
abbrev cX2_valueUnderHand : ByteArray := prog_4_method_3_code
def yX2_valueUnderHand : MethodName := ⟨RX2, "valueUnderHand", "()I"⟩
abbrev cX2_sum : ByteArray := prog_4_method_4_code
def yX2_sum : MethodName := ⟨RX2, "sum", "()I"⟩
abbrev cX2_copyFrom : ByteArray := prog_4_method_5_code
def yX2_copyFrom : MethodName := ⟨RX2, "copyFrom", "(LTryLoops$Row;)V"⟩
abbrev cX2_obey : ByteArray := prog_4_method_6_code
def yX2_obey : MethodName := ⟨RX2, "obey", "(II)Z"⟩
abbrev cX2_put : ByteArray := prog_4_method_7_code
def yX2_put : MethodName := ⟨RX2, "put", "(II)V"⟩
def RX3 : String := "TryLoops$Shelf"
def TX3 : u_T := fun k => match k with
  | 0 => ("TryLoops$Shelf", "width", "I", true)
  | 1 => ("TryLoops$Shelf", "verbs", "[I", true)
  | 2 => ("TryLoops$Shelf", "numbers", "[I", true)
  | 3 => ("TryLoops$Shelf", "strides", "[I", true)
  | 4 => ("TryLoops$Shelf", "sizes", "[I", true)
  | 5 => ("TryLoops$Shelf", "turns", "[I", true)
  | _ => ("TryLoops$Shelf", "count", "I", false)
def tyX3 : Nat → FieldType := fun k => match k with
  | 0 => .int
  | 1 => .array .int
  | 2 => .array .int
  | 3 => .array .int
  | 4 => .array .int
  | 5 => .array .int
  | _ => .int
abbrev wsX30 : List Cond := u_ws RX3 TX3 7
theorem nmX3 : ∀ a, a < 7 → ∀ b, b < 7 → a ≠ b → (TX3 a).2.1 ≠ (TX3 b).2.1 := by decide +kernel
theorem tyX3_ok : ∀ k, k < 7 → parseFieldDescriptor (TX3 k).2.2.1 = some (tyX3 k) := by decide +kernel
abbrev cX3_init : ByteArray := prog_5_method_1_code
def yX3_init : MethodName := ⟨RX3, "<init>", "(II)V"⟩
abbrev cX3_holds : ByteArray := prog_5_method_2_code
def yX3_holds : MethodName := ⟨RX3, "holds", "(I)Z"⟩
abbrev cX3_isFull : ByteArray := prog_5_method_3_code
def yX3_isFull : MethodName := ⟨RX3, "isFull", "()Z"⟩
abbrev cX3_hasStep : ByteArray := prog_5_method_4_code
def yX3_hasStep : MethodName := ⟨RX3, "hasStep", "(II)Z"⟩
abbrev cX3_sizeOf : ByteArray := prog_5_method_5_code
def yX3_sizeOf : MethodName := ⟨RX3, "sizeOf", "(I)I"⟩
abbrev cX3_turnsOf : ByteArray := prog_5_method_6_code
def yX3_turnsOf : MethodName := ⟨RX3, "turnsOf", "(I)I"⟩
abbrev cX3_verbAt : ByteArray := prog_5_method_7_code
def yX3_verbAt : MethodName := ⟨RX3, "verbAt", "(II)I"⟩
abbrev cX3_numberAt : ByteArray := prog_5_method_8_code
def yX3_numberAt : MethodName := ⟨RX3, "numberAt", "(II)I"⟩
abbrev cX3_strideAt : ByteArray := prog_5_method_9_code
def yX3_strideAt : MethodName := ⟨RX3, "strideAt", "(II)I"⟩
abbrev cX3_numberInTurn : ByteArray := prog_5_method_10_code
def yX3_numberInTurn : MethodName := ⟨RX3, "numberInTurn", "(III)I"⟩
abbrev cX3_haveSameVerbs : ByteArray := prog_5_method_11_code
def yX3_haveSameVerbs : MethodName := ⟨RX3, "haveSameVerbs", "(II)Z"⟩
abbrev cX3_emptyNext : ByteArray := prog_5_method_12_code
def yX3_emptyNext : MethodName := ⟨RX3, "emptyNext", "()V"⟩
abbrev cX3_keepNext : ByteArray := prog_5_method_13_code
def yX3_keepNext : MethodName := ⟨RX3, "keepNext", "(I)I"⟩
abbrev cX3_giveTurns : ByteArray := prog_5_method_14_code
def yX3_giveTurns : MethodName := ⟨RX3, "giveTurns", "(II)V"⟩
abbrev cX3_append : ByteArray := prog_5_method_15_code
def yX3_append : MethodName := ⟨RX3, "append", "(IIII)V"⟩
abbrev cX3_drop : ByteArray := prog_5_method_16_code
def yX3_drop : MethodName := ⟨RX3, "drop", "(I)V"⟩
abbrev cX3_clear : ByteArray := prog_5_method_17_code
def yX3_clear : MethodName := ⟨RX3, "clear", "()V"⟩
abbrev cX3_copyFrom : ByteArray := prog_5_method_18_code
def yX3_copyFrom : MethodName := ⟨RX3, "copyFrom", "(LTryLoops$Shelf;)V"⟩
abbrev cX3_hasPlace : ByteArray := prog_5_method_19_code
def yX3_hasPlace : MethodName := ⟨RX3, "hasPlace", "(I)Z"⟩
abbrev cX3_look : ByteArray := prog_5_method_20_code
def yX3_look : MethodName := ⟨RX3, "look", "([III)I"⟩
abbrev cX3_moveUp : ByteArray := prog_5_method_21_code
def yX3_moveUp : MethodName := ⟨RX3, "moveUp", "([III)V"⟩
def RX4 : String := "TryLoops$State"
def TX4 : u_T := fun k => match k with
  | 0 => ("TryLoops$State", "row", "LTryLoops$Row;", true)
  | 1 => ("TryLoops$State", "tries", "LTryLoops$Shelf;", true)
  | 2 => ("TryLoops$State", "loops", "LTryLoops$Shelf;", true)
  | 3 => ("TryLoops$State", "open", "Z", false)
  | 4 => ("TryLoops$State", "stepsDone", "I", false)
  | 5 => ("TryLoops$State", "testsFailed", "I", false)
  | 6 => ("TryLoops$State", "plays", "I", false)
  | _ => ("TryLoops$State", "latestReason", "I", false)
def tyX4 : Nat → FieldType := fun k => match k with
  | 0 => .object "TryLoops$Row"
  | 1 => .object "TryLoops$Shelf"
  | 2 => .object "TryLoops$Shelf"
  | 3 => .boolean
  | 4 => .int
  | 5 => .int
  | 6 => .int
  | _ => .int
abbrev wsX40 : List Cond := u_ws RX4 TX4 8
theorem nmX4 : ∀ a, a < 8 → ∀ b, b < 8 → a ≠ b → (TX4 a).2.1 ≠ (TX4 b).2.1 := by decide +kernel
theorem tyX4_ok : ∀ k, k < 8 → parseFieldDescriptor (TX4 k).2.2.1 = some (tyX4 k) := by decide +kernel
abbrev cX4_init : ByteArray := prog_6_method_1_code
def yX4_init : MethodName := ⟨RX4, "<init>", "()V"⟩
abbrev cX4_openSize : ByteArray := prog_6_method_2_code
def yX4_openSize : MethodName := ⟨RX4, "openSize", "()I"⟩
abbrev cX4_obey : ByteArray := prog_6_method_3_code
def yX4_obey : MethodName := ⟨RX4, "obey", "(II)Z"⟩
abbrev cX4_playLoop : ByteArray := prog_6_method_4_code
def yX4_playLoop : MethodName := ⟨RX4, "playLoop", "(LTryLoops$Play;LTryLoops$Shelf;I)I"⟩
abbrev cX4_copyFrom : ByteArray := prog_6_method_5_code
def yX4_copyFrom : MethodName := ⟨RX4, "copyFrom", "(LTryLoops$State;)V"⟩
def RX5 : String := "TryLoops$Text"
def TX5 : u_T := fun k => match k with
  | 0 => ("TryLoops$Text", "signs", "[C", true)
  | 1 => ("TryLoops$Text", "size", "I", false)
  | 2 => ("TryLoops$Text", "at", "I", false)
  | _ => ("TryLoops$Text", "items", "LTryLoops$Shelf;", true)
def tyX5 : Nat → FieldType := fun k => match k with
  | 0 => .array .char
  | 1 => .int
  | 2 => .int
  | _ => .object "TryLoops$Shelf"
abbrev wsX50 : List Cond := u_ws RX5 TX5 4
theorem nmX5 : ∀ a, a < 4 → ∀ b, b < 4 → a ≠ b → (TX5 a).2.1 ≠ (TX5 b).2.1 := by decide +kernel
theorem tyX5_ok : ∀ k, k < 4 → parseFieldDescriptor (TX5 k).2.2.1 = some (tyX5 k) := by decide +kernel
abbrev cX5_init : ByteArray := prog_7_method_1_code
def yX5_init : MethodName := ⟨RX5, "<init>", "()V"⟩
abbrev cX5_append : ByteArray := prog_7_method_2_code
def yX5_append : MethodName := ⟨RX5, "append", "(C)Z"⟩
abbrev cX5_read : ByteArray := prog_7_method_3_code
def yX5_read : MethodName := ⟨RX5, "read", "()Z"⟩
abbrev cX5_readItem : ByteArray := prog_7_method_4_code
def yX5_readItem : MethodName := ⟨RX5, "readItem", "()Z"⟩
abbrev cX5_readBody : ByteArray := prog_7_method_5_code
def yX5_readBody : MethodName := ⟨RX5, "readBody", "()Z"⟩
abbrev cX5_readStep : ByteArray := prog_7_method_6_code
def yX5_readStep : MethodName := ⟨RX5, "readStep", "(Z)Z"⟩
abbrev cX5_readNumber : ByteArray := prog_7_method_7_code
def yX5_readNumber : MethodName := ⟨RX5, "readNumber", "(II)I"⟩
abbrev cX5_digitOf : ByteArray := prog_7_method_8_code
def yX5_digitOf : MethodName := ⟨RX5, "digitOf", "(C)I"⟩
abbrev cX5_take : ByteArray := prog_7_method_9_code
def yX5_take : MethodName := ⟨RX5, "take", "(C)Z"⟩
abbrev cX5_next : ByteArray := prog_7_method_10_code
def yX5_next : MethodName := ⟨RX5, "next", "()C"⟩
def RX6 : String := "TryLoops"
def TX6 : u_T := fun k => match k with
  | 0 => ("TryLoops", "now", "LTryLoops$State;", true)
  | 1 => ("TryLoops", "history", "LTryLoops$History;", true)
  | 2 => ("TryLoops", "snapshot", "LTryLoops$State;", true)
  | 3 => ("TryLoops", "snapshotTaken", "Z", false)
  | 4 => ("TryLoops", "text", "LTryLoops$Text;", true)
  | 5 => ("TryLoops", "run", "LTryLoops$Play;", true)
  | 6 => ("TryLoops", "rehearsal", "LTryLoops$Row;", true)
  | _ => ("TryLoops", "commonCounts", "[I", true)
def tyX6 : Nat → FieldType := fun k => match k with
  | 0 => .object "TryLoops$State"
  | 1 => .object "TryLoops$History"
  | 2 => .object "TryLoops$State"
  | 3 => .boolean
  | 4 => .object "TryLoops$Text"
  | 5 => .object "TryLoops$Play"
  | 6 => .object "TryLoops$Row"
  | _ => .array .int
abbrev wsX60 : List Cond := u_ws RX6 TX6 8
theorem nmX6 : ∀ a, a < 8 → ∀ b, b < 8 → a ≠ b → (TX6 a).2.1 ≠ (TX6 b).2.1 := by decide +kernel
theorem tyX6_ok : ∀ k, k < 8 → parseFieldDescriptor (TX6 k).2.2.1 = some (tyX6 k) := by decide +kernel
abbrev cX6_init : ByteArray := prog_1_method_1_code
def yX6_init : MethodName := ⟨RX6, "<init>", "()V"⟩
abbrev cX6_step : ByteArray := prog_1_method_2_code
def yX6_step : MethodName := ⟨RX6, "step", "(II)I"⟩
abbrev cX6_record : ByteArray := prog_1_method_3_code
def yX6_record : MethodName := ⟨RX6, "record", "()I"⟩
abbrev cX6_end : ByteArray := prog_1_method_4_code
def yX6_end : MethodName := ⟨RX6, "end", "()I"⟩
abbrev cX6_dropTry : ByteArray := prog_1_method_5_code
def yX6_dropTry : MethodName := ⟨RX6, "dropTry", "(I)I"⟩
abbrev cX6_generalise : ByteArray := prog_1_method_6_code
def yX6_generalise : MethodName := ⟨RX6, "generalise", "(II)I"⟩
abbrev cX6_fold : ByteArray := prog_1_method_7_code
def yX6_fold : MethodName := ⟨RX6, "fold", "(I)I"⟩
abbrev cX6_setTurns : ByteArray := prog_1_method_8_code
def yX6_setTurns : MethodName := ⟨RX6, "setTurns", "(II)I"⟩
abbrev cX6_dropLoop : ByteArray := prog_1_method_9_code
def yX6_dropLoop : MethodName := ⟨RX6, "dropLoop", "(I)I"⟩
abbrev cX6_play : ByteArray := prog_1_method_10_code
def yX6_play : MethodName := ⟨RX6, "play", "(I)I"⟩
abbrev cX6_type : ByteArray := prog_1_method_11_code
def yX6_type : MethodName := ⟨RX6, "type", "(C)I"⟩
abbrev cX6_clearText : ByteArray := prog_1_method_12_code
def yX6_clearText : MethodName := ⟨RX6, "clearText", "()I"⟩
abbrev cX6_perform : ByteArray := prog_1_method_13_code
def yX6_perform : MethodName := ⟨RX6, "perform", "()I"⟩
abbrev cX6_undo : ByteArray := prog_1_method_14_code
def yX6_undo : MethodName := ⟨RX6, "undo", "()I"⟩
abbrev cX6_keep : ByteArray := prog_1_method_15_code
def yX6_keep : MethodName := ⟨RX6, "keep", "()I"⟩
abbrev cX6_restore : ByteArray := prog_1_method_16_code
def yX6_restore : MethodName := ⟨RX6, "restore", "()I"⟩
abbrev cX6_cell : ByteArray := prog_1_method_17_code
def yX6_cell : MethodName := ⟨RX6, "cell", "(I)I"⟩
abbrev cX6_ofTry : ByteArray := prog_1_method_18_code
def yX6_ofTry : MethodName := ⟨RX6, "ofTry", "(III)I"⟩
abbrev cX6_ofLoop : ByteArray := prog_1_method_19_code
def yX6_ofLoop : MethodName := ⟨RX6, "ofLoop", "(III)I"⟩
abbrev cX6_length : ByteArray := prog_1_method_20_code
def yX6_length : MethodName := ⟨RX6, "length", "(II)I"⟩
abbrev cX6_total : ByteArray := prog_1_method_21_code
def yX6_total : MethodName := ⟨RX6, "total", "(I)I"⟩
abbrev cX6_alike : ByteArray := prog_1_method_22_code
def yX6_alike : MethodName := ⟨RX6, "alike", "(III)I"⟩
abbrev cX6_bestPair : ByteArray := prog_1_method_23_code
def yX6_bestPair : MethodName := ⟨RX6, "bestPair", "(I)I"⟩
abbrev cX6_fits : ByteArray := prog_1_method_24_code
def yX6_fits : MethodName := ⟨RX6, "fits", "(II)I"⟩
abbrev cX6_mostTurns : ByteArray := prog_1_method_25_code
def yX6_mostTurns : MethodName := ⟨RX6, "mostTurns", "(I)I"⟩
abbrev cX6_ifPlayed : ByteArray := prog_1_method_26_code
def yX6_ifPlayed : MethodName := ⟨RX6, "ifPlayed", "(III)I"⟩
abbrev cX6_fewestTurns : ByteArray := prog_1_method_27_code
def yX6_fewestTurns : MethodName := ⟨RX6, "fewestTurns", "(III)I"⟩
abbrev cX6_isVerb : ByteArray := prog_1_method_28_code
def yX6_isVerb : MethodName := ⟨RX6, "isVerb", "(I)Z"⟩
abbrev cX6_isCell : ByteArray := prog_1_method_29_code
def yX6_isCell : MethodName := ⟨RX6, "isCell", "(I)Z"⟩
abbrev cX6_isTurns : ByteArray := prog_1_method_30_code
def yX6_isTurns : MethodName := ⟨RX6, "isTurns", "(I)Z"⟩
abbrev cX6_greatestNumber : ByteArray := prog_1_method_31_code
def yX6_greatestNumber : MethodName := ⟨RX6, "greatestNumber", "(I)I"⟩
abbrev cX6_inRange : ByteArray := prog_1_method_32_code
def yX6_inRange : MethodName := ⟨RX6, "inRange", "(II)Z"⟩
abbrev cX6_canGeneralise : ByteArray := prog_1_method_33_code
def yX6_canGeneralise : MethodName := ⟨RX6, "canGeneralise", "(II)Z"⟩
abbrev cX6_countZeroStrides : ByteArray := prog_1_method_34_code
def yX6_countZeroStrides : MethodName := ⟨RX6, "countZeroStrides", "(II)I"⟩
abbrev cX6_countVerbRows : ByteArray := prog_1_method_35_code
def yX6_countVerbRows : MethodName := ⟨RX6, "countVerbRows", "()I"⟩
abbrev cX6_countCommon : ByteArray := prog_1_method_36_code
def yX6_countCommon : MethodName := ⟨RX6, "countCommon", "(IIZ)I"⟩
abbrev cX6_areAlike : ByteArray := prog_1_method_37_code
def yX6_areAlike : MethodName := ⟨RX6, "areAlike", "(IIIIZ)Z"⟩
abbrev cX6_makeLoop : ByteArray := prog_1_method_38_code
def yX6_makeLoop : MethodName := ⟨RX6, "makeLoop", "(IIIII)I"⟩
abbrev cX6_leastPeriod : ByteArray := prog_1_method_39_code
def yX6_leastPeriod : MethodName := ⟨RX6, "leastPeriod", "(I)I"⟩
abbrev cX6_repeatsBy : ByteArray := prog_1_method_40_code
def yX6_repeatsBy : MethodName := ⟨RX6, "repeatsBy", "(II)Z"⟩
abbrev cX6_riseAt : ByteArray := prog_1_method_41_code
def yX6_riseAt : MethodName := ⟨RX6, "riseAt", "(III)I"⟩
abbrev cX6_isTurn : ByteArray := prog_1_method_42_code
def yX6_isTurn : MethodName := ⟨RX6, "isTurn", "(IIII)Z"⟩
abbrev cX6_turnsInRange : ByteArray := prog_1_method_43_code
def yX6_turnsInRange : MethodName := ⟨RX6, "turnsInRange", "(II)I"⟩
abbrev cX6_copyNumbers : ByteArray := prog_1_method_44_code
def yX6_copyNumbers : MethodName := ⟨RX6, "copyNumbers", "([I[I)V"⟩
def RX7 : String := "TryLoopsModel"
def TX7 : u_T := fun k => match k with
  | 0 => ("TryLoopsModel", "z", "[I", true)
  | 1 => ("TryLoopsModel", "spare", "[I", true)
  | 2 => ("TryLoopsModel", "past", "[I", true)
  | 3 => ("TryLoopsModel", "states", "I", false)
  | 4 => ("TryLoopsModel", "kept", "[I", true)
  | 5 => ("TryLoopsModel", "isKept", "Z", false)
  | 6 => ("TryLoopsModel", "text", "[I", true)
  | 7 => ("TryLoopsModel", "length", "I", false)
  | 8 => ("TryLoopsModel", "verbs", "[I", true)
  | 9 => ("TryLoopsModel", "numbers", "[I", true)
  | 10 => ("TryLoopsModel", "strides", "[I", true)
  | 11 => ("TryLoopsModel", "size", "I", false)
  | 12 => ("TryLoopsModel", "spot", "I", false)
  | _ => ("TryLoopsModel", "common", "[I", true)
def tyX7 : Nat → FieldType := fun k => match k with
  | 0 => .array .int
  | 1 => .array .int
  | 2 => .array .int
  | 3 => .int
  | 4 => .array .int
  | 5 => .boolean
  | 6 => .array .int
  | 7 => .int
  | 8 => .array .int
  | 9 => .array .int
  | 10 => .array .int
  | 11 => .int
  | 12 => .int
  | _ => .array .int
abbrev wsX70 : List Cond := u_ws RX7 TX7 14
theorem nmX7 : ∀ a, a < 14 → ∀ b, b < 14 → a ≠ b → (TX7 a).2.1 ≠ (TX7 b).2.1 := by decide +kernel
theorem tyX7_ok : ∀ k, k < 14 → parseFieldDescriptor (TX7 k).2.2.1 = some (tyX7 k) := by decide +kernel
abbrev cX7_init : ByteArray := prog_9_method_1_code
def yX7_init : MethodName := ⟨RX7, "<init>", "()V"⟩
abbrev cX7_in : ByteArray := prog_9_method_2_code
def yX7_in : MethodName := ⟨RX7, "in", "(III)Z"⟩
abbrev cX7_greatest : ByteArray := prog_9_method_3_code
def yX7_greatest : MethodName := ⟨RX7, "greatest", "(I)I"⟩
abbrev cX7_isTry : ByteArray := prog_9_method_4_code
def yX7_isTry : MethodName := ⟨RX7, "isTry", "(I)Z"⟩
abbrev cX7_isLoop : ByteArray := prog_9_method_5_code
def yX7_isLoop : MethodName := ⟨RX7, "isLoop", "(I)Z"⟩
abbrev cX7_sizeOf : ByteArray := prog_9_method_6_code
def yX7_sizeOf : MethodName := ⟨RX7, "sizeOf", "(I)I"⟩
abbrev cX7_verbOf : ByteArray := prog_9_method_7_code
def yX7_verbOf : MethodName := ⟨RX7, "verbOf", "(II)I"⟩
abbrev cX7_numberOf : ByteArray := prog_9_method_8_code
def yX7_numberOf : MethodName := ⟨RX7, "numberOf", "(II)I"⟩
abbrev cX7_copyState : ByteArray := prog_9_method_9_code
def yX7_copyState : MethodName := ⟨RX7, "copyState", "([II[II)V"⟩
abbrev cX7_save : ByteArray := prog_9_method_10_code
def yX7_save : MethodName := ⟨RX7, "save", "()V"⟩
abbrev cX7_undo : ByteArray := prog_9_method_11_code
def yX7_undo : MethodName := ⟨RX7, "undo", "()I"⟩
abbrev cX7_keep : ByteArray := prog_9_method_12_code
def yX7_keep : MethodName := ⟨RX7, "keep", "()I"⟩
abbrev cX7_restore : ByteArray := prog_9_method_13_code
def yX7_restore : MethodName := ⟨RX7, "restore", "()I"⟩
abbrev cX7_doStep : ByteArray := prog_9_method_14_code
def yX7_doStep : MethodName := ⟨RX7, "doStep", "(II)Z"⟩
abbrev cX7_step : ByteArray := prog_9_method_15_code
def yX7_step : MethodName := ⟨RX7, "step", "(II)I"⟩
abbrev cX7_record : ByteArray := prog_9_method_16_code
def yX7_record : MethodName := ⟨RX7, "record", "()I"⟩
abbrev cX7_end : ByteArray := prog_9_method_17_code
def yX7_end : MethodName := ⟨RX7, "end", "()I"⟩
abbrev cX7_dropTry : ByteArray := prog_9_method_18_code
def yX7_dropTry : MethodName := ⟨RX7, "dropTry", "(I)I"⟩
abbrev cX7_newLoop : ByteArray := prog_9_method_19_code
def yX7_newLoop : MethodName := ⟨RX7, "newLoop", "(III)I"⟩
abbrev cX7_stride : ByteArray := prog_9_method_20_code
def yX7_stride : MethodName := ⟨RX7, "stride", "(III)V"⟩
abbrev cX7_areLike : ByteArray := prog_9_method_21_code
def yX7_areLike : MethodName := ⟨RX7, "areLike", "(II)Z"⟩
abbrev cX7_generalise : ByteArray := prog_9_method_22_code
def yX7_generalise : MethodName := ⟨RX7, "generalise", "(II)I"⟩
abbrev cX7_canFold : ByteArray := prog_9_method_23_code
def yX7_canFold : MethodName := ⟨RX7, "canFold", "(II)Z"⟩
abbrev cX7_fold : ByteArray := prog_9_method_24_code
def yX7_fold : MethodName := ⟨RX7, "fold", "(I)I"⟩
abbrev cX7_setTurns : ByteArray := prog_9_method_25_code
def yX7_setTurns : MethodName := ⟨RX7, "setTurns", "(II)I"⟩
abbrev cX7_dropLoop : ByteArray := prog_9_method_26_code
def yX7_dropLoop : MethodName := ⟨RX7, "dropLoop", "(I)I"⟩
abbrev cX7_takeBody : ByteArray := prog_9_method_27_code
def yX7_takeBody : MethodName := ⟨RX7, "takeBody", "(I)V"⟩
abbrev cX7_turn : ByteArray := prog_9_method_28_code
def yX7_turn : MethodName := ⟨RX7, "turn", "(I)I"⟩
abbrev cX7_playBody : ByteArray := prog_9_method_29_code
def yX7_playBody : MethodName := ⟨RX7, "playBody", "(I)V"⟩
abbrev cX7_playLoop : ByteArray := prog_9_method_30_code
def yX7_playLoop : MethodName := ⟨RX7, "playLoop", "(II)V"⟩
abbrev cX7_play : ByteArray := prog_9_method_31_code
def yX7_play : MethodName := ⟨RX7, "play", "(I)I"⟩
abbrev cX7_type : ByteArray := prog_9_method_32_code
def yX7_type : MethodName := ⟨RX7, "type", "(C)I"⟩
abbrev cX7_clearText : ByteArray := prog_9_method_33_code
def yX7_clearText : MethodName := ⟨RX7, "clearText", "()I"⟩
abbrev cX7_sees : ByteArray := prog_9_method_34_code
def yX7_sees : MethodName := ⟨RX7, "sees", "(II)Z"⟩
abbrev cX7_takes : ByteArray := prog_9_method_35_code
def yX7_takes : MethodName := ⟨RX7, "takes", "(I)Z"⟩
abbrev cX7_number : ByteArray := prog_9_method_36_code
def yX7_number : MethodName := ⟨RX7, "number", "(II)I"⟩
abbrev cX7_verbBy : ByteArray := prog_9_method_37_code
def yX7_verbBy : MethodName := ⟨RX7, "verbBy", "(I)I"⟩
abbrev cX7_readStep : ByteArray := prog_9_method_38_code
def yX7_readStep : MethodName := ⟨RX7, "readStep", "(Z)Z"⟩
abbrev cX7_readItem : ByteArray := prog_9_method_39_code
def yX7_readItem : MethodName := ⟨RX7, "readItem", "()I"⟩
abbrev cX7_readText : ByteArray := prog_9_method_40_code
def yX7_readText : MethodName := ⟨RX7, "readText", "(Z)Z"⟩
abbrev cX7_perform : ByteArray := prog_9_method_41_code
def yX7_perform : MethodName := ⟨RX7, "perform", "()I"⟩
abbrev cX7_cell : ByteArray := prog_9_method_42_code
def yX7_cell : MethodName := ⟨RX7, "cell", "(I)I"⟩
abbrev cX7_ofTry : ByteArray := prog_9_method_43_code
def yX7_ofTry : MethodName := ⟨RX7, "ofTry", "(III)I"⟩
abbrev cX7_ofLoop : ByteArray := prog_9_method_44_code
def yX7_ofLoop : MethodName := ⟨RX7, "ofLoop", "(III)I"⟩
abbrev cX7_length : ByteArray := prog_9_method_45_code
def yX7_length : MethodName := ⟨RX7, "length", "(II)I"⟩
abbrev cX7_sum : ByteArray := prog_9_method_46_code
def yX7_sum : MethodName := ⟨RX7, "sum", "()I"⟩
abbrev cX7_rowsOfVerbs : ByteArray := prog_9_method_47_code
def yX7_rowsOfVerbs : MethodName := ⟨RX7, "rowsOfVerbs", "()I"⟩
abbrev cX7_total : ByteArray := prog_9_method_48_code
def yX7_total : MethodName := ⟨RX7, "total", "(I)I"⟩
abbrev cX7_alike : ByteArray := prog_9_method_49_code
def yX7_alike : MethodName := ⟨RX7, "alike", "(III)I"⟩
abbrev cX7_likeNumbers : ByteArray := prog_9_method_50_code
def yX7_likeNumbers : MethodName := ⟨RX7, "likeNumbers", "(II)I"⟩
abbrev cX7_bestPair : ByteArray := prog_9_method_51_code
def yX7_bestPair : MethodName := ⟨RX7, "bestPair", "(I)I"⟩
abbrev cX7_fits : ByteArray := prog_9_method_52_code
def yX7_fits : MethodName := ⟨RX7, "fits", "(II)I"⟩
abbrev cX7_mostTurns : ByteArray := prog_9_method_53_code
def yX7_mostTurns : MethodName := ⟨RX7, "mostTurns", "(I)I"⟩
abbrev cX7_tests : ByteArray := prog_9_method_54_code
def yX7_tests : MethodName := ⟨RX7, "tests", "(I)I"⟩
abbrev cX7_ifPlayed : ByteArray := prog_9_method_55_code
def yX7_ifPlayed : MethodName := ⟨RX7, "ifPlayed", "(III)I"⟩
abbrev cX7_fewestTurns : ByteArray := prog_9_method_56_code
def yX7_fewestTurns : MethodName := ⟨RX7, "fewestTurns", "(III)I"⟩
def RJ11 : String := "java/lang/Character"
def TJ11 : u_T := fun k => match k with
  | _ => ("", "", "", false)
def tyJ11 : Nat → FieldType := fun k => match k with
  | _ => .int
abbrev wsJ110 : List Cond := u_ws RJ11 TJ11 0
theorem nmJ11 : ∀ a, a < 0 → ∀ b, b < 0 → a ≠ b → (TJ11 a).2.1 ≠ (TJ11 b).2.1 := by decide +kernel
theorem tyJ11_ok : ∀ k, k < 0 → parseFieldDescriptor (TJ11 k).2.2.1 = some (tyJ11 k) := by decide +kernel
abbrev cJ11_isValidCodePoint_9a6ad : ByteArray := prog_10_method_11_code
def yJ11_isValidCodePoint_9a6ad : MethodName := ⟨RJ11, "isValidCodePoint", "(I)Z"⟩
abbrev cJ11_highSurrogate_5068e : ByteArray := prog_10_method_28_code
def yJ11_highSurrogate_5068e : MethodName := ⟨RJ11, "highSurrogate", "(I)C"⟩
abbrev cJ11_lowSurrogate_5068e : ByteArray := prog_10_method_29_code
def yJ11_lowSurrogate_5068e : MethodName := ⟨RJ11, "lowSurrogate", "(I)C"⟩
def RJ9 : String := "java/lang/Math"
def TJ9 : u_T := fun k => match k with
  | _ => ("", "", "", false)
def tyJ9 : Nat → FieldType := fun k => match k with
  | _ => .int
abbrev wsJ90 : List Cond := u_ws RJ9 TJ9 0
theorem nmJ9 : ∀ a, a < 0 → ∀ b, b < 0 → a ≠ b → (TJ9 a).2.1 ≠ (TJ9 b).2.1 := by decide +kernel
theorem tyJ9_ok : ∀ k, k < 0 → parseFieldDescriptor (TJ9 k).2.2.1 = some (tyJ9 k) := by decide +kernel
abbrev cJ9_max_7cf53 : ByteArray := prog_11_method_65_code
def yJ9_max_7cf53 : MethodName := ⟨RJ9, "max", "(II)I"⟩
abbrev cJ9_min_7cf53 : ByteArray := prog_11_method_69_code
def yJ9_min_7cf53 : MethodName := ⟨RJ9, "min", "(II)I"⟩
def RJ0 : String := "java/lang/String"
def TJ0 : u_T := fun k => match k with
  | _ => ("", "", "", false)
def tyJ0 : Nat → FieldType := fun k => match k with
  | _ => .int
abbrev wsJ00 : List Cond := u_ws RJ0 TJ0 0
theorem nmJ0 : ∀ a, a < 0 → ∀ b, b < 0 → a ≠ b → (TJ0 a).2.1 ≠ (TJ0 b).2.1 := by decide +kernel
theorem tyJ0_ok : ∀ k, k < 0 → parseFieldDescriptor (TJ0 k).2.2.1 = some (tyJ0 k) := by decide +kernel
abbrev cJ0_length_8abf5 : ByteArray := prog_12_method_54_code
def yJ0_length_8abf5 : MethodName := ⟨RJ0, "length", "()I"⟩
abbrev cJ0_indexOf_0f7a4 : ByteArray := prog_12_method_79_code
def yJ0_indexOf_0f7a4 : MethodName := ⟨RJ0, "indexOf", "(I)I"⟩
abbrev cJ0_indexOf_7cf53 : ByteArray := prog_12_method_80_code
def yJ0_indexOf_7cf53 : MethodName := ⟨RJ0, "indexOf", "(II)I"⟩
abbrev cJ0_coder_7d493 : ByteArray := prog_12_method_152_code
def yJ0_coder_7d493 : MethodName := ⟨RJ0, "coder", "()B"⟩
abbrev cJ0_isLatin1_aae02 : ByteArray := prog_12_method_154_code
def yJ0_isLatin1_aae02 : MethodName := ⟨RJ0, "isLatin1", "()Z"⟩
abbrev cJ0_checkBoundsBeginEnd_23922 : ByteArray := prog_12_method_158_code
def yJ0_checkBoundsBeginEnd_23922 : MethodName := ⟨RJ0, "checkBoundsBeginEnd", "(III)V"⟩
def RJ1 : String := "java/lang/StringLatin1"
def TJ1 : u_T := fun k => match k with
  | _ => ("", "", "", false)
def tyJ1 : Nat → FieldType := fun k => match k with
  | _ => .int
abbrev wsJ10 : List Cond := u_ws RJ1 TJ1 0
theorem nmJ1 : ∀ a, a < 0 → ∀ b, b < 0 → a ≠ b → (TJ1 a).2.1 ≠ (TJ1 b).2.1 := by decide +kernel
theorem tyJ1_ok : ∀ k, k < 0 → parseFieldDescriptor (TJ1 k).2.2.1 = some (tyJ1 k) := by decide +kernel
abbrev cJ1_canEncode_9a6ad : ByteArray := prog_13_method_4_code
def yJ1_canEncode_9a6ad : MethodName := ⟨RJ1, "canEncode", "(I)Z"⟩
abbrev cJ1_indexOf_4cfef : ByteArray := prog_13_method_22_code
def yJ1_indexOf_4cfef : MethodName := ⟨RJ1, "indexOf", "([BIII)I"⟩
abbrev cJ1_indexOfChar_4cfef : ByteArray := prog_13_method_23_code
def yJ1_indexOfChar_4cfef : MethodName := ⟨RJ1, "indexOfChar", "([BIII)I"⟩
def RJ2 : String := "java/lang/StringUTF16"
def TJ2 : u_T := fun k => match k with
  | _ => ("", "", "", false)
def tyJ2 : Nat → FieldType := fun k => match k with
  | _ => .int
abbrev wsJ20 : List Cond := u_ws RJ2 TJ2 0
theorem nmJ2 : ∀ a, a < 0 → ∀ b, b < 0 → a ≠ b → (TJ2 a).2.1 ≠ (TJ2 b).2.1 := by decide +kernel
theorem tyJ2_ok : ∀ k, k < 0 → parseFieldDescriptor (TJ2 k).2.2.1 = some (tyJ2 k) := by decide +kernel
abbrev cJ2_getChar_3b067 : ByteArray := prog_14_method_5_code
def yJ2_getChar_3b067 : MethodName := ⟨RJ2, "getChar", "([BI)C"⟩
abbrev cJ2_length_9d52b : ByteArray := prog_14_method_6_code
def yJ2_length_9d52b : MethodName := ⟨RJ2, "length", "([B)I"⟩
abbrev cJ2_indexOf_4cfef : ByteArray := prog_14_method_40_code
def yJ2_indexOf_4cfef : MethodName := ⟨RJ2, "indexOf", "([BIII)I"⟩
abbrev cJ2_indexOfChar_4cfef : ByteArray := prog_14_method_47_code
def yJ2_indexOfChar_4cfef : MethodName := ⟨RJ2, "indexOfChar", "([BIII)I"⟩
abbrev cJ2_indexOfCharUnsafe_4cfef : ByteArray := prog_14_method_48_code
def yJ2_indexOfCharUnsafe_4cfef : MethodName := ⟨RJ2, "indexOfCharUnsafe", "([BIII)I"⟩
abbrev cJ2_indexOfSupplementary_4cfef : ByteArray := prog_14_method_49_code
def yJ2_indexOfSupplementary_4cfef : MethodName := ⟨RJ2, "indexOfSupplementary", "([BIII)I"⟩
abbrev cJ2_checkBoundsBeginEnd_d044e : ByteArray := prog_14_method_93_code
def yJ2_checkBoundsBeginEnd_d044e : MethodName := ⟨RJ2, "checkBoundsBeginEnd", "(II[B)V"⟩
def RJ10 : String := "java/lang/System"
def TJ10 : u_T := fun k => match k with
  | _ => ("", "", "", false)
def tyJ10 : Nat → FieldType := fun k => match k with
  | _ => .int
abbrev wsJ100 : List Cond := u_ws RJ10 TJ10 0
theorem nmJ10 : ∀ a, a < 0 → ∀ b, b < 0 → a ≠ b → (TJ10 a).2.1 ≠ (TJ10 b).2.1 := by decide +kernel
theorem tyJ10_ok : ∀ k, k < 0 → parseFieldDescriptor (TJ10 k).2.2.1 = some (tyJ10 k) := by decide +kernel
def RJ3 : String := "jdk/internal/util/Preconditions"
def TJ3 : u_T := fun k => match k with
  | _ => ("", "", "", false)
def tyJ3 : Nat → FieldType := fun k => match k with
  | _ => .int
abbrev wsJ30 : List Cond := u_ws RJ3 TJ3 0
theorem nmJ3 : ∀ a, a < 0 → ∀ b, b < 0 → a ≠ b → (TJ3 a).2.1 ≠ (TJ3 b).2.1 := by decide +kernel
theorem tyJ3_ok : ∀ k, k < 0 → parseFieldDescriptor (TJ3 k).2.2.1 = some (tyJ3 k) := by decide +kernel
abbrev cJ3_checkFromToIndex_8c36e : ByteArray := prog_16_method_12_code
def yJ3_checkFromToIndex_8c36e : MethodName := ⟨RJ3, "checkFromToIndex", "(IIILjava/util/function/BiFunction;)I"⟩
def RL : String := "TryLoopsLaw"
abbrev cL_law : ByteArray := code
def yL_law : MethodName := ⟨RL, "law", "([I)Z"⟩
abbrev vwCl : List vw_C := [(RX0, TX0, 2), (RX1, TX1, 3), (RX2, TX2, 2), (RX3, TX3, 7), (RX4, TX4, 8), (RX5, TX5, 4), (RX6, TX6, 8), (RX7, TX7, 14)]
end
section
/-- an instruction, its place and the next one's -/
def Dc (cc : ByteArray) (pc : Nat) (i : Instr) (len nx : Nat) : Prop := decode cc pc = .ok (i, len) ∧ pc + len = nx
def Db (cc : ByteArray) (pc : Nat) (i : Int → Instr) (nx tg : Nat) : Prop := ∃ off : Int, decode cc pc = .ok (i off, 3) ∧ pc + 3 = nx ∧ (pc : Int) + off = (tg : Int)
theorem dX0_init_0 : Dc cX0_init 0 (.aload_n 0) 1 1 := ⟨by decide +kernel, rfl⟩
theorem dX0_init_1 : Dc cX0_init 1 (.invokespecial 3) 3 4 := ⟨by decide +kernel, rfl⟩
theorem dX0_init_4 : Dc cX0_init 4 (.aload_n 0) 1 5 := ⟨by decide +kernel, rfl⟩
theorem dX0_init_5 : Dc cX0_init 5 (.iconst 4) 1 6 := ⟨by decide +kernel, rfl⟩
theorem dX0_init_6 : Dc cX0_init 6 (.anewarray 9) 3 9 := ⟨by decide +kernel, rfl⟩
theorem dX0_init_9 : Dc cX0_init 9 (.putfield 11) 3 12 := ⟨by decide +kernel, rfl⟩
theorem dX0_init_12 : Dc cX0_init 12 (.iconst 0) 1 13 := ⟨by decide +kernel, rfl⟩
theorem dX0_init_13 : Dc cX0_init 13 (.istore_n 1) 1 14 := ⟨by decide +kernel, rfl⟩
theorem dX0_init_14 : Dc cX0_init 14 (.iload_n 1) 1 15 := ⟨by decide +kernel, rfl⟩
theorem dX0_init_15 : Dc cX0_init 15 (.aload_n 0) 1 16 := ⟨by decide +kernel, rfl⟩
theorem dX0_init_16 : Dc cX0_init 16 (.getfield 11) 3 19 := ⟨by decide +kernel, rfl⟩
theorem dX0_init_19 : Dc cX0_init 19 (.arraylength) 1 20 := ⟨by decide +kernel, rfl⟩
theorem dX0_init_20 : Db cX0_init 20 (fun o => .if_icmp .ge o) 23 42 := ⟨22, by decide +kernel, rfl, rfl⟩
theorem dX0_init_23 : Dc cX0_init 23 (.aload_n 0) 1 24 := ⟨by decide +kernel, rfl⟩
theorem dX0_init_24 : Dc cX0_init 24 (.getfield 11) 3 27 := ⟨by decide +kernel, rfl⟩
theorem dX0_init_27 : Dc cX0_init 27 (.iload_n 1) 1 28 := ⟨by decide +kernel, rfl⟩
theorem dX0_init_28 : Dc cX0_init 28 (.new 9) 3 31 := ⟨by decide +kernel, rfl⟩
theorem dX0_init_31 : Dc cX0_init 31 (.dup) 1 32 := ⟨by decide +kernel, rfl⟩
theorem dX0_init_32 : Dc cX0_init 32 (.invokespecial 17) 3 35 := ⟨by decide +kernel, rfl⟩
theorem dX0_init_35 : Dc cX0_init 35 (.aastore) 1 36 := ⟨by decide +kernel, rfl⟩
theorem dX0_init_36 : Dc cX0_init 36 (.iinc 1 1) 3 39 := ⟨by decide +kernel, rfl⟩
theorem dX0_init_39 : Db cX0_init 39 .goto 42 14 := ⟨-25, by decide +kernel, rfl, rfl⟩
theorem dX0_init_42 : Dc cX0_init 42 (.return_) 1 43 := ⟨by decide +kernel, rfl⟩
theorem dX0_push_0 : Dc cX0_push 0 (.aload_n 0) 1 1 := ⟨by decide +kernel, rfl⟩
theorem dX0_push_1 : Dc cX0_push 1 (.getfield 18) 3 4 := ⟨by decide +kernel, rfl⟩
theorem dX0_push_4 : Dc cX0_push 4 (.aload_n 0) 1 5 := ⟨by decide +kernel, rfl⟩
theorem dX0_push_5 : Dc cX0_push 5 (.getfield 11) 3 8 := ⟨by decide +kernel, rfl⟩
theorem dX0_push_8 : Dc cX0_push 8 (.arraylength) 1 9 := ⟨by decide +kernel, rfl⟩
theorem dX0_push_9 : Db cX0_push 9 (fun o => .if_icmp .lt o) 12 16 := ⟨7, by decide +kernel, rfl, rfl⟩
theorem dX0_push_12 : Dc cX0_push 12 (.aload_n 0) 1 13 := ⟨by decide +kernel, rfl⟩
theorem dX0_push_13 : Dc cX0_push 13 (.invokevirtual 22) 3 16 := ⟨by decide +kernel, rfl⟩
theorem dX0_push_16 : Dc cX0_push 16 (.aload_n 0) 1 17 := ⟨by decide +kernel, rfl⟩
theorem dX0_push_17 : Dc cX0_push 17 (.getfield 18) 3 20 := ⟨by decide +kernel, rfl⟩
theorem dX0_push_20 : Db cX0_push 20 (fun o => .ifCond .lt o) 23 70 := ⟨50, by decide +kernel, rfl, rfl⟩
theorem dX0_push_23 : Dc cX0_push 23 (.aload_n 0) 1 24 := ⟨by decide +kernel, rfl⟩
theorem dX0_push_24 : Dc cX0_push 24 (.getfield 18) 3 27 := ⟨by decide +kernel, rfl⟩
theorem dX0_push_27 : Dc cX0_push 27 (.aload_n 0) 1 28 := ⟨by decide +kernel, rfl⟩
theorem dX0_push_28 : Dc cX0_push 28 (.getfield 11) 3 31 := ⟨by decide +kernel, rfl⟩
theorem dX0_push_31 : Dc cX0_push 31 (.arraylength) 1 32 := ⟨by decide +kernel, rfl⟩
theorem dX0_push_32 : Db cX0_push 32 (fun o => .if_icmp .ge o) 35 70 := ⟨38, by decide +kernel, rfl, rfl⟩
theorem dX0_push_35 : Dc cX0_push 35 (.aload_n 0) 1 36 := ⟨by decide +kernel, rfl⟩
theorem dX0_push_36 : Dc cX0_push 36 (.getfield 11) 3 39 := ⟨by decide +kernel, rfl⟩
theorem dX0_push_39 : Dc cX0_push 39 (.aload_n 0) 1 40 := ⟨by decide +kernel, rfl⟩
theorem dX0_push_40 : Dc cX0_push 40 (.getfield 18) 3 43 := ⟨by decide +kernel, rfl⟩
theorem dX0_push_43 : Dc cX0_push 43 (.aaload) 1 44 := ⟨by decide +kernel, rfl⟩
theorem dX0_push_44 : Db cX0_push 44 .ifnull 47 70 := ⟨26, by decide +kernel, rfl, rfl⟩
theorem dX0_push_47 : Dc cX0_push 47 (.aload_n 0) 1 48 := ⟨by decide +kernel, rfl⟩
theorem dX0_push_48 : Dc cX0_push 48 (.getfield 11) 3 51 := ⟨by decide +kernel, rfl⟩
theorem dX0_push_51 : Dc cX0_push 51 (.aload_n 0) 1 52 := ⟨by decide +kernel, rfl⟩
theorem dX0_push_52 : Dc cX0_push 52 (.getfield 18) 3 55 := ⟨by decide +kernel, rfl⟩
theorem dX0_push_55 : Dc cX0_push 55 (.aaload) 1 56 := ⟨by decide +kernel, rfl⟩
theorem dX0_push_56 : Dc cX0_push 56 (.aload_n 1) 1 57 := ⟨by decide +kernel, rfl⟩
theorem dX0_push_57 : Dc cX0_push 57 (.invokevirtual 25) 3 60 := ⟨by decide +kernel, rfl⟩
theorem dX0_push_60 : Dc cX0_push 60 (.aload_n 0) 1 61 := ⟨by decide +kernel, rfl⟩
theorem dX0_push_61 : Dc cX0_push 61 (.dup) 1 62 := ⟨by decide +kernel, rfl⟩
theorem dX0_push_62 : Dc cX0_push 62 (.getfield 18) 3 65 := ⟨by decide +kernel, rfl⟩
theorem dX0_push_65 : Dc cX0_push 65 (.iconst 1) 1 66 := ⟨by decide +kernel, rfl⟩
theorem dX0_push_66 : Dc cX0_push 66 (.iadd) 1 67 := ⟨by decide +kernel, rfl⟩
theorem dX0_push_67 : Dc cX0_push 67 (.putfield 18) 3 70 := ⟨by decide +kernel, rfl⟩
theorem dX0_push_70 : Dc cX0_push 70 (.return_) 1 71 := ⟨by decide +kernel, rfl⟩
theorem dX0_pop_0 : Dc cX0_pop 0 (.aload_n 0) 1 1 := ⟨by decide +kernel, rfl⟩
theorem dX0_pop_1 : Dc cX0_pop 1 (.getfield 18) 3 4 := ⟨by decide +kernel, rfl⟩
theorem dX0_pop_4 : Dc cX0_pop 4 (.iconst 1) 1 5 := ⟨by decide +kernel, rfl⟩
theorem dX0_pop_5 : Dc cX0_pop 5 (.isub) 1 6 := ⟨by decide +kernel, rfl⟩
theorem dX0_pop_6 : Dc cX0_pop 6 (.istore_n 2) 1 7 := ⟨by decide +kernel, rfl⟩
theorem dX0_pop_7 : Dc cX0_pop 7 (.iload_n 2) 1 8 := ⟨by decide +kernel, rfl⟩
theorem dX0_pop_8 : Db cX0_pop 8 (fun o => .ifCond .lt o) 11 29 := ⟨21, by decide +kernel, rfl, rfl⟩
theorem dX0_pop_11 : Dc cX0_pop 11 (.iload_n 2) 1 12 := ⟨by decide +kernel, rfl⟩
theorem dX0_pop_12 : Dc cX0_pop 12 (.aload_n 0) 1 13 := ⟨by decide +kernel, rfl⟩
theorem dX0_pop_13 : Dc cX0_pop 13 (.getfield 11) 3 16 := ⟨by decide +kernel, rfl⟩
theorem dX0_pop_16 : Dc cX0_pop 16 (.arraylength) 1 17 := ⟨by decide +kernel, rfl⟩
theorem dX0_pop_17 : Db cX0_pop 17 (fun o => .if_icmp .ge o) 20 29 := ⟨12, by decide +kernel, rfl, rfl⟩
theorem dX0_pop_20 : Dc cX0_pop 20 (.aload_n 0) 1 21 := ⟨by decide +kernel, rfl⟩
theorem dX0_pop_21 : Dc cX0_pop 21 (.getfield 11) 3 24 := ⟨by decide +kernel, rfl⟩
theorem dX0_pop_24 : Dc cX0_pop 24 (.iload_n 2) 1 25 := ⟨by decide +kernel, rfl⟩
theorem dX0_pop_25 : Dc cX0_pop 25 (.aaload) 1 26 := ⟨by decide +kernel, rfl⟩
theorem dX0_pop_26 : Db cX0_pop 26 .ifnonnull 29 31 := ⟨5, by decide +kernel, rfl, rfl⟩
theorem dX0_pop_29 : Dc cX0_pop 29 (.iconst 0) 1 30 := ⟨by decide +kernel, rfl⟩
theorem dX0_pop_30 : Dc cX0_pop 30 (.ireturn) 1 31 := ⟨by decide +kernel, rfl⟩
theorem dX0_pop_31 : Dc cX0_pop 31 (.aload_n 1) 1 32 := ⟨by decide +kernel, rfl⟩
theorem dX0_pop_32 : Dc cX0_pop 32 (.aload_n 0) 1 33 := ⟨by decide +kernel, rfl⟩
theorem dX0_pop_33 : Dc cX0_pop 33 (.getfield 11) 3 36 := ⟨by decide +kernel, rfl⟩
theorem dX0_pop_36 : Dc cX0_pop 36 (.iload_n 2) 1 37 := ⟨by decide +kernel, rfl⟩
theorem dX0_pop_37 : Dc cX0_pop 37 (.aaload) 1 38 := ⟨by decide +kernel, rfl⟩
theorem dX0_pop_38 : Dc cX0_pop 38 (.invokevirtual 25) 3 41 := ⟨by decide +kernel, rfl⟩
theorem dX0_pop_41 : Dc cX0_pop 41 (.aload_n 0) 1 42 := ⟨by decide +kernel, rfl⟩
theorem dX0_pop_42 : Dc cX0_pop 42 (.iload_n 2) 1 43 := ⟨by decide +kernel, rfl⟩
theorem dX0_pop_43 : Dc cX0_pop 43 (.putfield 18) 3 46 := ⟨by decide +kernel, rfl⟩
theorem dX0_pop_46 : Dc cX0_pop 46 (.iconst 1) 1 47 := ⟨by decide +kernel, rfl⟩
theorem dX0_pop_47 : Dc cX0_pop 47 (.ireturn) 1 48 := ⟨by decide +kernel, rfl⟩
theorem dX0_dropOldest_0 : Dc cX0_dropOldest 0 (.aload_n 0) 1 1 := ⟨by decide +kernel, rfl⟩
theorem dX0_dropOldest_1 : Dc cX0_dropOldest 1 (.getfield 11) 3 4 := ⟨by decide +kernel, rfl⟩
theorem dX0_dropOldest_4 : Dc cX0_dropOldest 4 (.iconst 0) 1 5 := ⟨by decide +kernel, rfl⟩
theorem dX0_dropOldest_5 : Dc cX0_dropOldest 5 (.aaload) 1 6 := ⟨by decide +kernel, rfl⟩
theorem dX0_dropOldest_6 : Dc cX0_dropOldest 6 (.astore_n 1) 1 7 := ⟨by decide +kernel, rfl⟩
theorem dX0_dropOldest_7 : Dc cX0_dropOldest 7 (.iconst 1) 1 8 := ⟨by decide +kernel, rfl⟩
theorem dX0_dropOldest_8 : Dc cX0_dropOldest 8 (.istore_n 2) 1 9 := ⟨by decide +kernel, rfl⟩
theorem dX0_dropOldest_9 : Dc cX0_dropOldest 9 (.iload_n 2) 1 10 := ⟨by decide +kernel, rfl⟩
theorem dX0_dropOldest_10 : Dc cX0_dropOldest 10 (.aload_n 0) 1 11 := ⟨by decide +kernel, rfl⟩
theorem dX0_dropOldest_11 : Dc cX0_dropOldest 11 (.getfield 11) 3 14 := ⟨by decide +kernel, rfl⟩
theorem dX0_dropOldest_14 : Dc cX0_dropOldest 14 (.arraylength) 1 15 := ⟨by decide +kernel, rfl⟩
theorem dX0_dropOldest_15 : Db cX0_dropOldest 15 (fun o => .if_icmp .ge o) 18 38 := ⟨23, by decide +kernel, rfl, rfl⟩
theorem dX0_dropOldest_18 : Dc cX0_dropOldest 18 (.aload_n 0) 1 19 := ⟨by decide +kernel, rfl⟩
theorem dX0_dropOldest_19 : Dc cX0_dropOldest 19 (.getfield 11) 3 22 := ⟨by decide +kernel, rfl⟩
theorem dX0_dropOldest_22 : Dc cX0_dropOldest 22 (.iload_n 2) 1 23 := ⟨by decide +kernel, rfl⟩
theorem dX0_dropOldest_23 : Dc cX0_dropOldest 23 (.iconst 1) 1 24 := ⟨by decide +kernel, rfl⟩
theorem dX0_dropOldest_24 : Dc cX0_dropOldest 24 (.isub) 1 25 := ⟨by decide +kernel, rfl⟩
theorem dX0_dropOldest_25 : Dc cX0_dropOldest 25 (.aload_n 0) 1 26 := ⟨by decide +kernel, rfl⟩
theorem dX0_dropOldest_26 : Dc cX0_dropOldest 26 (.getfield 11) 3 29 := ⟨by decide +kernel, rfl⟩
theorem dX0_dropOldest_29 : Dc cX0_dropOldest 29 (.iload_n 2) 1 30 := ⟨by decide +kernel, rfl⟩
theorem dX0_dropOldest_30 : Dc cX0_dropOldest 30 (.aaload) 1 31 := ⟨by decide +kernel, rfl⟩
theorem dX0_dropOldest_31 : Dc cX0_dropOldest 31 (.aastore) 1 32 := ⟨by decide +kernel, rfl⟩
theorem dX0_dropOldest_32 : Dc cX0_dropOldest 32 (.iinc 2 1) 3 35 := ⟨by decide +kernel, rfl⟩
theorem dX0_dropOldest_35 : Db cX0_dropOldest 35 .goto 38 9 := ⟨-26, by decide +kernel, rfl, rfl⟩
theorem dX0_dropOldest_38 : Dc cX0_dropOldest 38 (.aload_n 0) 1 39 := ⟨by decide +kernel, rfl⟩
theorem dX0_dropOldest_39 : Dc cX0_dropOldest 39 (.getfield 11) 3 42 := ⟨by decide +kernel, rfl⟩
theorem dX0_dropOldest_42 : Dc cX0_dropOldest 42 (.aload_n 0) 1 43 := ⟨by decide +kernel, rfl⟩
theorem dX0_dropOldest_43 : Dc cX0_dropOldest 43 (.getfield 11) 3 46 := ⟨by decide +kernel, rfl⟩
theorem dX0_dropOldest_46 : Dc cX0_dropOldest 46 (.arraylength) 1 47 := ⟨by decide +kernel, rfl⟩
theorem dX0_dropOldest_47 : Dc cX0_dropOldest 47 (.iconst 1) 1 48 := ⟨by decide +kernel, rfl⟩
theorem dX0_dropOldest_48 : Dc cX0_dropOldest 48 (.isub) 1 49 := ⟨by decide +kernel, rfl⟩
theorem dX0_dropOldest_49 : Dc cX0_dropOldest 49 (.aload_n 1) 1 50 := ⟨by decide +kernel, rfl⟩
theorem dX0_dropOldest_50 : Dc cX0_dropOldest 50 (.aastore) 1 51 := ⟨by decide +kernel, rfl⟩
theorem dX0_dropOldest_51 : Dc cX0_dropOldest 51 (.aload_n 0) 1 52 := ⟨by decide +kernel, rfl⟩
theorem dX0_dropOldest_52 : Dc cX0_dropOldest 52 (.dup) 1 53 := ⟨by decide +kernel, rfl⟩
theorem dX0_dropOldest_53 : Dc cX0_dropOldest 53 (.getfield 18) 3 56 := ⟨by decide +kernel, rfl⟩
theorem dX0_dropOldest_56 : Dc cX0_dropOldest 56 (.iconst 1) 1 57 := ⟨by decide +kernel, rfl⟩
theorem dX0_dropOldest_57 : Dc cX0_dropOldest 57 (.isub) 1 58 := ⟨by decide +kernel, rfl⟩
theorem dX0_dropOldest_58 : Dc cX0_dropOldest 58 (.putfield 18) 3 61 := ⟨by decide +kernel, rfl⟩
theorem dX0_dropOldest_61 : Dc cX0_dropOldest 61 (.return_) 1 62 := ⟨by decide +kernel, rfl⟩
theorem dX1_init_0 : Dc cX1_init 0 (.aload_n 0) 1 1 := ⟨by decide +kernel, rfl⟩
theorem dX1_init_1 : Dc cX1_init 1 (.invokespecial 3) 3 4 := ⟨by decide +kernel, rfl⟩
theorem dX1_init_4 : Dc cX1_init 4 (.return_) 1 5 := ⟨by decide +kernel, rfl⟩
theorem dX1_begin_0 : Dc cX1_begin 0 (.aload_n 0) 1 1 := ⟨by decide +kernel, rfl⟩
theorem dX1_begin_1 : Dc cX1_begin 1 (.iconst 0) 1 2 := ⟨by decide +kernel, rfl⟩
theorem dX1_begin_2 : Dc cX1_begin 2 (.putfield 9) 3 5 := ⟨by decide +kernel, rfl⟩
theorem dX1_begin_5 : Dc cX1_begin 5 (.aload_n 0) 1 6 := ⟨by decide +kernel, rfl⟩
theorem dX1_begin_6 : Dc cX1_begin 6 (.iconst 0) 1 7 := ⟨by decide +kernel, rfl⟩
theorem dX1_begin_7 : Dc cX1_begin 7 (.putfield 15) 3 10 := ⟨by decide +kernel, rfl⟩
theorem dX1_begin_10 : Dc cX1_begin 10 (.aload_n 0) 1 11 := ⟨by decide +kernel, rfl⟩
theorem dX1_begin_11 : Dc cX1_begin 11 (.iconst 0) 1 12 := ⟨by decide +kernel, rfl⟩
theorem dX1_begin_12 : Dc cX1_begin 12 (.putfield 18) 3 15 := ⟨by decide +kernel, rfl⟩
theorem dX1_begin_15 : Dc cX1_begin 15 (.return_) 1 16 := ⟨by decide +kernel, rfl⟩
theorem dX1_doTurns_0 : Dc cX1_doTurns 0 (.aload_n 0) 1 1 := ⟨by decide +kernel, rfl⟩
theorem dX1_doTurns_1 : Dc cX1_doTurns 1 (.invokevirtual 21) 3 4 := ⟨by decide +kernel, rfl⟩
theorem dX1_doTurns_4 : Dc cX1_doTurns 4 (.iconst 1) 1 5 := ⟨by decide +kernel, rfl⟩
theorem dX1_doTurns_5 : Dc cX1_doTurns 5 (.istore 5) 2 7 := ⟨by decide +kernel, rfl⟩
theorem dX1_doTurns_7 : Dc cX1_doTurns 7 (.iconst 0) 1 8 := ⟨by decide +kernel, rfl⟩
theorem dX1_doTurns_8 : Dc cX1_doTurns 8 (.istore 6) 2 10 := ⟨by decide +kernel, rfl⟩
theorem dX1_doTurns_10 : Dc cX1_doTurns 10 (.iload 5) 2 12 := ⟨by decide +kernel, rfl⟩
theorem dX1_doTurns_12 : Db cX1_doTurns 12 (fun o => .ifCond .eq o) 15 39 := ⟨27, by decide +kernel, rfl, rfl⟩
theorem dX1_doTurns_15 : Dc cX1_doTurns 15 (.iload 6) 2 17 := ⟨by decide +kernel, rfl⟩
theorem dX1_doTurns_17 : Dc cX1_doTurns 17 (.iload 4) 2 19 := ⟨by decide +kernel, rfl⟩
theorem dX1_doTurns_19 : Db cX1_doTurns 19 (fun o => .if_icmp .ge o) 22 39 := ⟨20, by decide +kernel, rfl, rfl⟩
theorem dX1_doTurns_22 : Dc cX1_doTurns 22 (.aload_n 0) 1 23 := ⟨by decide +kernel, rfl⟩
theorem dX1_doTurns_23 : Dc cX1_doTurns 23 (.aload_n 1) 1 24 := ⟨by decide +kernel, rfl⟩
theorem dX1_doTurns_24 : Dc cX1_doTurns 24 (.aload_n 2) 1 25 := ⟨by decide +kernel, rfl⟩
theorem dX1_doTurns_25 : Dc cX1_doTurns 25 (.iload_n 3) 1 26 := ⟨by decide +kernel, rfl⟩
theorem dX1_doTurns_26 : Dc cX1_doTurns 26 (.iload 6) 2 28 := ⟨by decide +kernel, rfl⟩
theorem dX1_doTurns_28 : Dc cX1_doTurns 28 (.invokevirtual 24) 3 31 := ⟨by decide +kernel, rfl⟩
theorem dX1_doTurns_31 : Dc cX1_doTurns 31 (.istore 5) 2 33 := ⟨by decide +kernel, rfl⟩
theorem dX1_doTurns_33 : Dc cX1_doTurns 33 (.iinc 6 1) 3 36 := ⟨by decide +kernel, rfl⟩
theorem dX1_doTurns_36 : Db cX1_doTurns 36 .goto 39 10 := ⟨-26, by decide +kernel, rfl, rfl⟩
theorem dX1_doTurns_39 : Dc cX1_doTurns 39 (.return_) 1 40 := ⟨by decide +kernel, rfl⟩
theorem dX1_doTurn_0 : Dc cX1_doTurn 0 (.aload_n 2) 1 1 := ⟨by decide +kernel, rfl⟩
theorem dX1_doTurn_1 : Dc cX1_doTurn 1 (.iload_n 3) 1 2 := ⟨by decide +kernel, rfl⟩
theorem dX1_doTurn_2 : Dc cX1_doTurn 2 (.invokevirtual 28) 3 5 := ⟨by decide +kernel, rfl⟩
theorem dX1_doTurn_5 : Dc cX1_doTurn 5 (.istore 5) 2 7 := ⟨by decide +kernel, rfl⟩
theorem dX1_doTurn_7 : Dc cX1_doTurn 7 (.iconst 0) 1 8 := ⟨by decide +kernel, rfl⟩
theorem dX1_doTurn_8 : Dc cX1_doTurn 8 (.istore 6) 2 10 := ⟨by decide +kernel, rfl⟩
theorem dX1_doTurn_10 : Dc cX1_doTurn 10 (.iload 6) 2 12 := ⟨by decide +kernel, rfl⟩
theorem dX1_doTurn_12 : Dc cX1_doTurn 12 (.iload 5) 2 14 := ⟨by decide +kernel, rfl⟩
theorem dX1_doTurn_14 : Db cX1_doTurn 14 (fun o => .if_icmp .ge o) 17 104 := ⟨90, by decide +kernel, rfl, rfl⟩
theorem dX1_doTurn_17 : Dc cX1_doTurn 17 (.aload_n 2) 1 18 := ⟨by decide +kernel, rfl⟩
theorem dX1_doTurn_18 : Dc cX1_doTurn 18 (.iload_n 3) 1 19 := ⟨by decide +kernel, rfl⟩
theorem dX1_doTurn_19 : Dc cX1_doTurn 19 (.iload 6) 2 21 := ⟨by decide +kernel, rfl⟩
theorem dX1_doTurn_21 : Dc cX1_doTurn 21 (.invokevirtual 34) 3 24 := ⟨by decide +kernel, rfl⟩
theorem dX1_doTurn_24 : Dc cX1_doTurn 24 (.istore 7) 2 26 := ⟨by decide +kernel, rfl⟩
theorem dX1_doTurn_26 : Dc cX1_doTurn 26 (.aload_n 2) 1 27 := ⟨by decide +kernel, rfl⟩
theorem dX1_doTurn_27 : Dc cX1_doTurn 27 (.iload_n 3) 1 28 := ⟨by decide +kernel, rfl⟩
theorem dX1_doTurn_28 : Dc cX1_doTurn 28 (.iload 6) 2 30 := ⟨by decide +kernel, rfl⟩
theorem dX1_doTurn_30 : Dc cX1_doTurn 30 (.iload 4) 2 32 := ⟨by decide +kernel, rfl⟩
theorem dX1_doTurn_32 : Dc cX1_doTurn 32 (.invokevirtual 38) 3 35 := ⟨by decide +kernel, rfl⟩
theorem dX1_doTurn_35 : Dc cX1_doTurn 35 (.istore 8) 2 37 := ⟨by decide +kernel, rfl⟩
theorem dX1_doTurn_37 : Dc cX1_doTurn 37 (.iload 7) 2 39 := ⟨by decide +kernel, rfl⟩
theorem dX1_doTurn_39 : Dc cX1_doTurn 39 (.iload 8) 2 41 := ⟨by decide +kernel, rfl⟩
theorem dX1_doTurn_41 : Dc cX1_doTurn 41 (.invokestatic 42) 3 44 := ⟨by decide +kernel, rfl⟩
theorem dX1_doTurn_44 : Db cX1_doTurn 44 (fun o => .ifCond .ne o) 47 54 := ⟨10, by decide +kernel, rfl, rfl⟩
theorem dX1_doTurn_47 : Dc cX1_doTurn 47 (.aload_n 0) 1 48 := ⟨by decide +kernel, rfl⟩
theorem dX1_doTurn_48 : Dc cX1_doTurn 48 (.iconst 1) 1 49 := ⟨by decide +kernel, rfl⟩
theorem dX1_doTurn_49 : Dc cX1_doTurn 49 (.putfield 18) 3 52 := ⟨by decide +kernel, rfl⟩
theorem dX1_doTurn_52 : Dc cX1_doTurn 52 (.iconst 0) 1 53 := ⟨by decide +kernel, rfl⟩
theorem dX1_doTurn_53 : Dc cX1_doTurn 53 (.ireturn) 1 54 := ⟨by decide +kernel, rfl⟩
theorem dX1_doTurn_54 : Dc cX1_doTurn 54 (.aload_n 0) 1 55 := ⟨by decide +kernel, rfl⟩
theorem dX1_doTurn_55 : Dc cX1_doTurn 55 (.dup) 1 56 := ⟨by decide +kernel, rfl⟩
theorem dX1_doTurn_56 : Dc cX1_doTurn 56 (.getfield 9) 3 59 := ⟨by decide +kernel, rfl⟩
theorem dX1_doTurn_59 : Dc cX1_doTurn 59 (.iconst 1) 1 60 := ⟨by decide +kernel, rfl⟩
theorem dX1_doTurn_60 : Dc cX1_doTurn 60 (.iadd) 1 61 := ⟨by decide +kernel, rfl⟩
theorem dX1_doTurn_61 : Dc cX1_doTurn 61 (.putfield 9) 3 64 := ⟨by decide +kernel, rfl⟩
theorem dX1_doTurn_64 : Dc cX1_doTurn 64 (.aload_n 1) 1 65 := ⟨by decide +kernel, rfl⟩
theorem dX1_doTurn_65 : Dc cX1_doTurn 65 (.iload 7) 2 67 := ⟨by decide +kernel, rfl⟩
theorem dX1_doTurn_67 : Dc cX1_doTurn 67 (.iload 8) 2 69 := ⟨by decide +kernel, rfl⟩
theorem dX1_doTurn_69 : Dc cX1_doTurn 69 (.invokevirtual 46) 3 72 := ⟨by decide +kernel, rfl⟩
theorem dX1_doTurn_72 : Db cX1_doTurn 72 (fun o => .ifCond .ne o) 75 82 := ⟨10, by decide +kernel, rfl, rfl⟩
theorem dX1_doTurn_75 : Dc cX1_doTurn 75 (.aload_n 0) 1 76 := ⟨by decide +kernel, rfl⟩
theorem dX1_doTurn_76 : Dc cX1_doTurn 76 (.iconst 2) 1 77 := ⟨by decide +kernel, rfl⟩
theorem dX1_doTurn_77 : Dc cX1_doTurn 77 (.putfield 18) 3 80 := ⟨by decide +kernel, rfl⟩
theorem dX1_doTurn_80 : Dc cX1_doTurn 80 (.iconst 0) 1 81 := ⟨by decide +kernel, rfl⟩
theorem dX1_doTurn_81 : Dc cX1_doTurn 81 (.ireturn) 1 82 := ⟨by decide +kernel, rfl⟩
theorem dX1_doTurn_82 : Dc cX1_doTurn 82 (.iload 7) 2 84 := ⟨by decide +kernel, rfl⟩
theorem dX1_doTurn_84 : Dc cX1_doTurn 84 (.iconst 5) 1 85 := ⟨by decide +kernel, rfl⟩
theorem dX1_doTurn_85 : Db cX1_doTurn 85 (fun o => .if_icmp .ne o) 88 98 := ⟨13, by decide +kernel, rfl, rfl⟩
theorem dX1_doTurn_88 : Dc cX1_doTurn 88 (.aload_n 0) 1 89 := ⟨by decide +kernel, rfl⟩
theorem dX1_doTurn_89 : Dc cX1_doTurn 89 (.dup) 1 90 := ⟨by decide +kernel, rfl⟩
theorem dX1_doTurn_90 : Dc cX1_doTurn 90 (.getfield 15) 3 93 := ⟨by decide +kernel, rfl⟩
theorem dX1_doTurn_93 : Dc cX1_doTurn 93 (.iconst 1) 1 94 := ⟨by decide +kernel, rfl⟩
theorem dX1_doTurn_94 : Dc cX1_doTurn 94 (.iadd) 1 95 := ⟨by decide +kernel, rfl⟩
theorem dX1_doTurn_95 : Dc cX1_doTurn 95 (.putfield 15) 3 98 := ⟨by decide +kernel, rfl⟩
theorem dX1_doTurn_98 : Dc cX1_doTurn 98 (.iinc 6 1) 3 101 := ⟨by decide +kernel, rfl⟩
theorem dX1_doTurn_101 : Db cX1_doTurn 101 .goto 104 10 := ⟨-91, by decide +kernel, rfl, rfl⟩
theorem dX1_doTurn_104 : Dc cX1_doTurn 104 (.iconst 1) 1 105 := ⟨by decide +kernel, rfl⟩
theorem dX1_doTurn_105 : Dc cX1_doTurn 105 (.ireturn) 1 106 := ⟨by decide +kernel, rfl⟩
theorem dX2_init_0 : Dc cX2_init 0 (.aload_n 0) 1 1 := ⟨by decide +kernel, rfl⟩
theorem dX2_init_1 : Dc cX2_init 1 (.invokespecial 3) 3 4 := ⟨by decide +kernel, rfl⟩
theorem dX2_init_4 : Dc cX2_init 4 (.aload_n 0) 1 5 := ⟨by decide +kernel, rfl⟩
theorem dX2_init_5 : Dc cX2_init 5 (.bipush 30) 2 7 := ⟨by decide +kernel, rfl⟩
theorem dX2_init_7 : Dc cX2_init 7 (.newarray .int) 2 9 := ⟨by decide +kernel, rfl⟩
theorem dX2_init_9 : Dc cX2_init 9 (.putfield 9) 3 12 := ⟨by decide +kernel, rfl⟩
theorem dX2_init_12 : Dc cX2_init 12 (.return_) 1 13 := ⟨by decide +kernel, rfl⟩
theorem dX2_valueAt_0 : Dc cX2_valueAt 0 (.iload_n 1) 1 1 := ⟨by decide +kernel, rfl⟩
theorem dX2_valueAt_1 : Db cX2_valueAt 1 (fun o => .ifCond .lt o) 4 22 := ⟨21, by decide +kernel, rfl, rfl⟩
theorem dX2_valueAt_4 : Dc cX2_valueAt 4 (.iload_n 1) 1 5 := ⟨by decide +kernel, rfl⟩
theorem dX2_valueAt_5 : Dc cX2_valueAt 5 (.aload_n 0) 1 6 := ⟨by decide +kernel, rfl⟩
theorem dX2_valueAt_6 : Dc cX2_valueAt 6 (.getfield 9) 3 9 := ⟨by decide +kernel, rfl⟩
theorem dX2_valueAt_9 : Dc cX2_valueAt 9 (.arraylength) 1 10 := ⟨by decide +kernel, rfl⟩
theorem dX2_valueAt_10 : Db cX2_valueAt 10 (fun o => .if_icmp .ge o) 13 22 := ⟨12, by decide +kernel, rfl, rfl⟩
theorem dX2_valueAt_13 : Dc cX2_valueAt 13 (.aload_n 0) 1 14 := ⟨by decide +kernel, rfl⟩
theorem dX2_valueAt_14 : Dc cX2_valueAt 14 (.getfield 9) 3 17 := ⟨by decide +kernel, rfl⟩
theorem dX2_valueAt_17 : Dc cX2_valueAt 17 (.iload_n 1) 1 18 := ⟨by decide +kernel, rfl⟩
theorem dX2_valueAt_18 : Dc cX2_valueAt 18 (.iaload) 1 19 := ⟨by decide +kernel, rfl⟩
theorem dX2_valueAt_19 : Db cX2_valueAt 19 .goto 22 23 := ⟨4, by decide +kernel, rfl, rfl⟩
theorem dX2_valueAt_22 : Dc cX2_valueAt 22 (.iconst 0) 1 23 := ⟨by decide +kernel, rfl⟩
theorem dX2_valueAt_23 : Dc cX2_valueAt 23 (.ireturn) 1 24 := ⟨by decide +kernel, rfl⟩
theorem dX2_valueUnderHand_0 : Dc cX2_valueUnderHand 0 (.aload_n 0) 1 1 := ⟨by decide +kernel, rfl⟩
theorem dX2_valueUnderHand_1 : Dc cX2_valueUnderHand 1 (.aload_n 0) 1 2 := ⟨by decide +kernel, rfl⟩
theorem dX2_valueUnderHand_2 : Dc cX2_valueUnderHand 2 (.getfield 15) 3 5 := ⟨by decide +kernel, rfl⟩
theorem dX2_valueUnderHand_5 : Dc cX2_valueUnderHand 5 (.invokevirtual 19) 3 8 := ⟨by decide +kernel, rfl⟩
theorem dX2_valueUnderHand_8 : Dc cX2_valueUnderHand 8 (.ireturn) 1 9 := ⟨by decide +kernel, rfl⟩
theorem dX2_sum_0 : Dc cX2_sum 0 (.iconst 0) 1 1 := ⟨by decide +kernel, rfl⟩
theorem dX2_sum_1 : Dc cX2_sum 1 (.istore_n 1) 1 2 := ⟨by decide +kernel, rfl⟩
theorem dX2_sum_2 : Dc cX2_sum 2 (.aload_n 0) 1 3 := ⟨by decide +kernel, rfl⟩
theorem dX2_sum_3 : Dc cX2_sum 3 (.getfield 9) 3 6 := ⟨by decide +kernel, rfl⟩
theorem dX2_sum_6 : Dc cX2_sum 6 (.astore_n 2) 1 7 := ⟨by decide +kernel, rfl⟩
theorem dX2_sum_7 : Dc cX2_sum 7 (.aload_n 2) 1 8 := ⟨by decide +kernel, rfl⟩
theorem dX2_sum_8 : Dc cX2_sum 8 (.arraylength) 1 9 := ⟨by decide +kernel, rfl⟩
theorem dX2_sum_9 : Dc cX2_sum 9 (.istore_n 3) 1 10 := ⟨by decide +kernel, rfl⟩
theorem dX2_sum_10 : Dc cX2_sum 10 (.iconst 0) 1 11 := ⟨by decide +kernel, rfl⟩
theorem dX2_sum_11 : Dc cX2_sum 11 (.istore 4) 2 13 := ⟨by decide +kernel, rfl⟩
theorem dX2_sum_13 : Dc cX2_sum 13 (.iload 4) 2 15 := ⟨by decide +kernel, rfl⟩
theorem dX2_sum_15 : Dc cX2_sum 15 (.iload_n 3) 1 16 := ⟨by decide +kernel, rfl⟩
theorem dX2_sum_16 : Db cX2_sum 16 (fun o => .if_icmp .ge o) 19 36 := ⟨20, by decide +kernel, rfl, rfl⟩
theorem dX2_sum_19 : Dc cX2_sum 19 (.aload_n 2) 1 20 := ⟨by decide +kernel, rfl⟩
theorem dX2_sum_20 : Dc cX2_sum 20 (.iload 4) 2 22 := ⟨by decide +kernel, rfl⟩
theorem dX2_sum_22 : Dc cX2_sum 22 (.iaload) 1 23 := ⟨by decide +kernel, rfl⟩
theorem dX2_sum_23 : Dc cX2_sum 23 (.istore 5) 2 25 := ⟨by decide +kernel, rfl⟩
theorem dX2_sum_25 : Dc cX2_sum 25 (.iload_n 1) 1 26 := ⟨by decide +kernel, rfl⟩
theorem dX2_sum_26 : Dc cX2_sum 26 (.iload 5) 2 28 := ⟨by decide +kernel, rfl⟩
theorem dX2_sum_28 : Dc cX2_sum 28 (.iadd) 1 29 := ⟨by decide +kernel, rfl⟩
theorem dX2_sum_29 : Dc cX2_sum 29 (.istore_n 1) 1 30 := ⟨by decide +kernel, rfl⟩
theorem dX2_sum_30 : Dc cX2_sum 30 (.iinc 4 1) 3 33 := ⟨by decide +kernel, rfl⟩
theorem dX2_sum_33 : Db cX2_sum 33 .goto 36 13 := ⟨-20, by decide +kernel, rfl, rfl⟩
theorem dX2_sum_36 : Dc cX2_sum 36 (.iload_n 1) 1 37 := ⟨by decide +kernel, rfl⟩
theorem dX2_sum_37 : Dc cX2_sum 37 (.ireturn) 1 38 := ⟨by decide +kernel, rfl⟩
theorem dX2_copyFrom_0 : Dc cX2_copyFrom 0 (.aload_n 1) 1 1 := ⟨by decide +kernel, rfl⟩
theorem dX2_copyFrom_1 : Dc cX2_copyFrom 1 (.getfield 9) 3 4 := ⟨by decide +kernel, rfl⟩
theorem dX2_copyFrom_4 : Dc cX2_copyFrom 4 (.aload_n 0) 1 5 := ⟨by decide +kernel, rfl⟩
theorem dX2_copyFrom_5 : Dc cX2_copyFrom 5 (.getfield 9) 3 8 := ⟨by decide +kernel, rfl⟩
theorem dX2_copyFrom_8 : Dc cX2_copyFrom 8 (.invokestatic 23) 3 11 := ⟨by decide +kernel, rfl⟩
theorem dX2_copyFrom_11 : Dc cX2_copyFrom 11 (.aload_n 0) 1 12 := ⟨by decide +kernel, rfl⟩
theorem dX2_copyFrom_12 : Dc cX2_copyFrom 12 (.aload_n 1) 1 13 := ⟨by decide +kernel, rfl⟩
theorem dX2_copyFrom_13 : Dc cX2_copyFrom 13 (.getfield 15) 3 16 := ⟨by decide +kernel, rfl⟩
theorem dX2_copyFrom_16 : Dc cX2_copyFrom 16 (.putfield 15) 3 19 := ⟨by decide +kernel, rfl⟩
theorem dX2_copyFrom_19 : Dc cX2_copyFrom 19 (.return_) 1 20 := ⟨by decide +kernel, rfl⟩
theorem dX2_obey_0 : Dc cX2_obey 0 (.aload_n 0) 1 1 := ⟨by decide +kernel, rfl⟩
theorem dX2_obey_1 : Dc cX2_obey 1 (.invokevirtual 27) 3 4 := ⟨by decide +kernel, rfl⟩
theorem dX2_obey_4 : Dc cX2_obey 4 (.istore_n 3) 1 5 := ⟨by decide +kernel, rfl⟩
theorem dX2_obey_5 : Dc cX2_obey 5 (.iload_n 1) 1 6 := ⟨by decide +kernel, rfl⟩
theorem dX2_obey_6 : decode cX2_obey 6 = .ok (.tableswitch 104 0 4 #[34, 41, 52, 68, 83], 34) := by decide +kernel
theorem dX2_obey_40 : Dc cX2_obey 40 (.aload_n 0) 1 41 := ⟨by decide +kernel, rfl⟩
theorem dX2_obey_41 : Dc cX2_obey 41 (.iload_n 2) 1 42 := ⟨by decide +kernel, rfl⟩
theorem dX2_obey_42 : Dc cX2_obey 42 (.putfield 15) 3 45 := ⟨by decide +kernel, rfl⟩
theorem dX2_obey_45 : Dc cX2_obey 45 (.iconst 1) 1 46 := ⟨by decide +kernel, rfl⟩
theorem dX2_obey_46 : Dc cX2_obey 46 (.ireturn) 1 47 := ⟨by decide +kernel, rfl⟩
theorem dX2_obey_47 : Dc cX2_obey 47 (.aload_n 0) 1 48 := ⟨by decide +kernel, rfl⟩
theorem dX2_obey_48 : Dc cX2_obey 48 (.aload_n 0) 1 49 := ⟨by decide +kernel, rfl⟩
theorem dX2_obey_49 : Dc cX2_obey 49 (.getfield 15) 3 52 := ⟨by decide +kernel, rfl⟩
theorem dX2_obey_52 : Dc cX2_obey 52 (.iload_n 2) 1 53 := ⟨by decide +kernel, rfl⟩
theorem dX2_obey_53 : Dc cX2_obey 53 (.invokevirtual 31) 3 56 := ⟨by decide +kernel, rfl⟩
theorem dX2_obey_56 : Dc cX2_obey 56 (.iconst 1) 1 57 := ⟨by decide +kernel, rfl⟩
theorem dX2_obey_57 : Dc cX2_obey 57 (.ireturn) 1 58 := ⟨by decide +kernel, rfl⟩
theorem dX2_obey_58 : Dc cX2_obey 58 (.aload_n 0) 1 59 := ⟨by decide +kernel, rfl⟩
theorem dX2_obey_59 : Dc cX2_obey 59 (.aload_n 0) 1 60 := ⟨by decide +kernel, rfl⟩
theorem dX2_obey_60 : Dc cX2_obey 60 (.getfield 15) 3 63 := ⟨by decide +kernel, rfl⟩
theorem dX2_obey_63 : Dc cX2_obey 63 (.iload_n 3) 1 64 := ⟨by decide +kernel, rfl⟩
theorem dX2_obey_64 : Dc cX2_obey 64 (.iload_n 2) 1 65 := ⟨by decide +kernel, rfl⟩
theorem dX2_obey_65 : Dc cX2_obey 65 (.iadd) 1 66 := ⟨by decide +kernel, rfl⟩
theorem dX2_obey_66 : Dc cX2_obey 66 (.bipush 100) 2 68 := ⟨by decide +kernel, rfl⟩
theorem dX2_obey_68 : Dc cX2_obey 68 (.irem) 1 69 := ⟨by decide +kernel, rfl⟩
theorem dX2_obey_69 : Dc cX2_obey 69 (.invokevirtual 31) 3 72 := ⟨by decide +kernel, rfl⟩
theorem dX2_obey_72 : Dc cX2_obey 72 (.iconst 1) 1 73 := ⟨by decide +kernel, rfl⟩
theorem dX2_obey_73 : Dc cX2_obey 73 (.ireturn) 1 74 := ⟨by decide +kernel, rfl⟩
theorem dX2_obey_74 : Dc cX2_obey 74 (.aload_n 0) 1 75 := ⟨by decide +kernel, rfl⟩
theorem dX2_obey_75 : Dc cX2_obey 75 (.aload_n 0) 1 76 := ⟨by decide +kernel, rfl⟩
theorem dX2_obey_76 : Dc cX2_obey 76 (.getfield 15) 3 79 := ⟨by decide +kernel, rfl⟩
theorem dX2_obey_79 : Dc cX2_obey 79 (.aload_n 0) 1 80 := ⟨by decide +kernel, rfl⟩
theorem dX2_obey_80 : Dc cX2_obey 80 (.iload_n 2) 1 81 := ⟨by decide +kernel, rfl⟩
theorem dX2_obey_81 : Dc cX2_obey 81 (.invokevirtual 19) 3 84 := ⟨by decide +kernel, rfl⟩
theorem dX2_obey_84 : Dc cX2_obey 84 (.invokevirtual 31) 3 87 := ⟨by decide +kernel, rfl⟩
theorem dX2_obey_87 : Dc cX2_obey 87 (.iconst 1) 1 88 := ⟨by decide +kernel, rfl⟩
theorem dX2_obey_88 : Dc cX2_obey 88 (.ireturn) 1 89 := ⟨by decide +kernel, rfl⟩
theorem dX2_obey_89 : Dc cX2_obey 89 (.aload_n 0) 1 90 := ⟨by decide +kernel, rfl⟩
theorem dX2_obey_90 : Dc cX2_obey 90 (.aload_n 0) 1 91 := ⟨by decide +kernel, rfl⟩
theorem dX2_obey_91 : Dc cX2_obey 91 (.getfield 15) 3 94 := ⟨by decide +kernel, rfl⟩
theorem dX2_obey_94 : Dc cX2_obey 94 (.aload_n 0) 1 95 := ⟨by decide +kernel, rfl⟩
theorem dX2_obey_95 : Dc cX2_obey 95 (.iload_n 2) 1 96 := ⟨by decide +kernel, rfl⟩
theorem dX2_obey_96 : Dc cX2_obey 96 (.invokevirtual 19) 3 99 := ⟨by decide +kernel, rfl⟩
theorem dX2_obey_99 : Dc cX2_obey 99 (.invokevirtual 31) 3 102 := ⟨by decide +kernel, rfl⟩
theorem dX2_obey_102 : Dc cX2_obey 102 (.aload_n 0) 1 103 := ⟨by decide +kernel, rfl⟩
theorem dX2_obey_103 : Dc cX2_obey 103 (.iload_n 2) 1 104 := ⟨by decide +kernel, rfl⟩
theorem dX2_obey_104 : Dc cX2_obey 104 (.iload_n 3) 1 105 := ⟨by decide +kernel, rfl⟩
theorem dX2_obey_105 : Dc cX2_obey 105 (.invokevirtual 31) 3 108 := ⟨by decide +kernel, rfl⟩
theorem dX2_obey_108 : Dc cX2_obey 108 (.iconst 1) 1 109 := ⟨by decide +kernel, rfl⟩
theorem dX2_obey_109 : Dc cX2_obey 109 (.ireturn) 1 110 := ⟨by decide +kernel, rfl⟩
theorem dX2_obey_110 : Dc cX2_obey 110 (.iload_n 3) 1 111 := ⟨by decide +kernel, rfl⟩
theorem dX2_obey_111 : Dc cX2_obey 111 (.iload_n 2) 1 112 := ⟨by decide +kernel, rfl⟩
theorem dX2_obey_112 : Db cX2_obey 112 (fun o => .if_icmp .gt o) 115 119 := ⟨7, by decide +kernel, rfl, rfl⟩
theorem dX2_obey_115 : Dc cX2_obey 115 (.iconst 1) 1 116 := ⟨by decide +kernel, rfl⟩
theorem dX2_obey_116 : Db cX2_obey 116 .goto 119 120 := ⟨4, by decide +kernel, rfl, rfl⟩
theorem dX2_obey_119 : Dc cX2_obey 119 (.iconst 0) 1 120 := ⟨by decide +kernel, rfl⟩
theorem dX2_obey_120 : Dc cX2_obey 120 (.ireturn) 1 121 := ⟨by decide +kernel, rfl⟩
theorem dX2_put_0 : Dc cX2_put 0 (.iload_n 1) 1 1 := ⟨by decide +kernel, rfl⟩
theorem dX2_put_1 : Db cX2_put 1 (fun o => .ifCond .lt o) 4 20 := ⟨19, by decide +kernel, rfl, rfl⟩
theorem dX2_put_4 : Dc cX2_put 4 (.iload_n 1) 1 5 := ⟨by decide +kernel, rfl⟩
theorem dX2_put_5 : Dc cX2_put 5 (.aload_n 0) 1 6 := ⟨by decide +kernel, rfl⟩
theorem dX2_put_6 : Dc cX2_put 6 (.getfield 9) 3 9 := ⟨by decide +kernel, rfl⟩
theorem dX2_put_9 : Dc cX2_put 9 (.arraylength) 1 10 := ⟨by decide +kernel, rfl⟩
theorem dX2_put_10 : Db cX2_put 10 (fun o => .if_icmp .ge o) 13 20 := ⟨10, by decide +kernel, rfl, rfl⟩
theorem dX2_put_13 : Dc cX2_put 13 (.aload_n 0) 1 14 := ⟨by decide +kernel, rfl⟩
theorem dX2_put_14 : Dc cX2_put 14 (.getfield 9) 3 17 := ⟨by decide +kernel, rfl⟩
theorem dX2_put_17 : Dc cX2_put 17 (.iload_n 1) 1 18 := ⟨by decide +kernel, rfl⟩
theorem dX2_put_18 : Dc cX2_put 18 (.iload_n 2) 1 19 := ⟨by decide +kernel, rfl⟩
theorem dX2_put_19 : Dc cX2_put 19 (.iastore) 1 20 := ⟨by decide +kernel, rfl⟩
theorem dX2_put_20 : Dc cX2_put 20 (.return_) 1 21 := ⟨by decide +kernel, rfl⟩
theorem dX3_init_0 : Dc cX3_init 0 (.aload_n 0) 1 1 := ⟨by decide +kernel, rfl⟩
theorem dX3_init_1 : Dc cX3_init 1 (.invokespecial 1) 3 4 := ⟨by decide +kernel, rfl⟩
theorem dX3_init_4 : Dc cX3_init 4 (.iconst 0) 1 5 := ⟨by decide +kernel, rfl⟩
theorem dX3_init_5 : Dc cX3_init 5 (.iload_n 1) 1 6 := ⟨by decide +kernel, rfl⟩
theorem dX3_init_6 : Dc cX3_init 6 (.invokestatic 7) 3 9 := ⟨by decide +kernel, rfl⟩
theorem dX3_init_9 : Dc cX3_init 9 (.istore_n 3) 1 10 := ⟨by decide +kernel, rfl⟩
theorem dX3_init_10 : Dc cX3_init 10 (.aload_n 0) 1 11 := ⟨by decide +kernel, rfl⟩
theorem dX3_init_11 : Dc cX3_init 11 (.iconst 0) 1 12 := ⟨by decide +kernel, rfl⟩
theorem dX3_init_12 : Dc cX3_init 12 (.iload_n 2) 1 13 := ⟨by decide +kernel, rfl⟩
theorem dX3_init_13 : Dc cX3_init 13 (.invokestatic 7) 3 16 := ⟨by decide +kernel, rfl⟩
theorem dX3_init_16 : Dc cX3_init 16 (.putfield 13) 3 19 := ⟨by decide +kernel, rfl⟩
theorem dX3_init_19 : Dc cX3_init 19 (.iconst 0) 1 20 := ⟨by decide +kernel, rfl⟩
theorem dX3_init_20 : Dc cX3_init 20 (.iload_n 3) 1 21 := ⟨by decide +kernel, rfl⟩
theorem dX3_init_21 : Dc cX3_init 21 (.aload_n 0) 1 22 := ⟨by decide +kernel, rfl⟩
theorem dX3_init_22 : Dc cX3_init 22 (.getfield 13) 3 25 := ⟨by decide +kernel, rfl⟩
theorem dX3_init_25 : Dc cX3_init 25 (.imul) 1 26 := ⟨by decide +kernel, rfl⟩
theorem dX3_init_26 : Dc cX3_init 26 (.invokestatic 7) 3 29 := ⟨by decide +kernel, rfl⟩
theorem dX3_init_29 : Dc cX3_init 29 (.istore 4) 2 31 := ⟨by decide +kernel, rfl⟩
theorem dX3_init_31 : Dc cX3_init 31 (.aload_n 0) 1 32 := ⟨by decide +kernel, rfl⟩
theorem dX3_init_32 : Dc cX3_init 32 (.iload 4) 2 34 := ⟨by decide +kernel, rfl⟩
theorem dX3_init_34 : Dc cX3_init 34 (.newarray .int) 2 36 := ⟨by decide +kernel, rfl⟩
theorem dX3_init_36 : Dc cX3_init 36 (.putfield 19) 3 39 := ⟨by decide +kernel, rfl⟩
theorem dX3_init_39 : Dc cX3_init 39 (.aload_n 0) 1 40 := ⟨by decide +kernel, rfl⟩
theorem dX3_init_40 : Dc cX3_init 40 (.iload 4) 2 42 := ⟨by decide +kernel, rfl⟩
theorem dX3_init_42 : Dc cX3_init 42 (.newarray .int) 2 44 := ⟨by decide +kernel, rfl⟩
theorem dX3_init_44 : Dc cX3_init 44 (.putfield 23) 3 47 := ⟨by decide +kernel, rfl⟩
theorem dX3_init_47 : Dc cX3_init 47 (.aload_n 0) 1 48 := ⟨by decide +kernel, rfl⟩
theorem dX3_init_48 : Dc cX3_init 48 (.iload 4) 2 50 := ⟨by decide +kernel, rfl⟩
theorem dX3_init_50 : Dc cX3_init 50 (.newarray .int) 2 52 := ⟨by decide +kernel, rfl⟩
theorem dX3_init_52 : Dc cX3_init 52 (.putfield 26) 3 55 := ⟨by decide +kernel, rfl⟩
theorem dX3_init_55 : Dc cX3_init 55 (.aload_n 0) 1 56 := ⟨by decide +kernel, rfl⟩
theorem dX3_init_56 : Dc cX3_init 56 (.iload_n 3) 1 57 := ⟨by decide +kernel, rfl⟩
theorem dX3_init_57 : Dc cX3_init 57 (.newarray .int) 2 59 := ⟨by decide +kernel, rfl⟩
theorem dX3_init_59 : Dc cX3_init 59 (.putfield 29) 3 62 := ⟨by decide +kernel, rfl⟩
theorem dX3_init_62 : Dc cX3_init 62 (.aload_n 0) 1 63 := ⟨by decide +kernel, rfl⟩
theorem dX3_init_63 : Dc cX3_init 63 (.iload_n 3) 1 64 := ⟨by decide +kernel, rfl⟩
theorem dX3_init_64 : Dc cX3_init 64 (.newarray .int) 2 66 := ⟨by decide +kernel, rfl⟩
theorem dX3_init_66 : Dc cX3_init 66 (.putfield 32) 3 69 := ⟨by decide +kernel, rfl⟩
theorem dX3_init_69 : Dc cX3_init 69 (.return_) 1 70 := ⟨by decide +kernel, rfl⟩
theorem dX3_holds_0 : Dc cX3_holds 0 (.iload_n 1) 1 1 := ⟨by decide +kernel, rfl⟩
theorem dX3_holds_1 : Db cX3_holds 1 (fun o => .ifCond .lt o) 4 16 := ⟨15, by decide +kernel, rfl, rfl⟩
theorem dX3_holds_4 : Dc cX3_holds 4 (.iload_n 1) 1 5 := ⟨by decide +kernel, rfl⟩
theorem dX3_holds_5 : Dc cX3_holds 5 (.aload_n 0) 1 6 := ⟨by decide +kernel, rfl⟩
theorem dX3_holds_6 : Dc cX3_holds 6 (.getfield 35) 3 9 := ⟨by decide +kernel, rfl⟩
theorem dX3_holds_9 : Db cX3_holds 9 (fun o => .if_icmp .ge o) 12 16 := ⟨7, by decide +kernel, rfl, rfl⟩
theorem dX3_holds_12 : Dc cX3_holds 12 (.iconst 1) 1 13 := ⟨by decide +kernel, rfl⟩
theorem dX3_holds_13 : Db cX3_holds 13 .goto 16 17 := ⟨4, by decide +kernel, rfl, rfl⟩
theorem dX3_holds_16 : Dc cX3_holds 16 (.iconst 0) 1 17 := ⟨by decide +kernel, rfl⟩
theorem dX3_holds_17 : Dc cX3_holds 17 (.ireturn) 1 18 := ⟨by decide +kernel, rfl⟩
theorem dX3_isFull_0 : Dc cX3_isFull 0 (.aload_n 0) 1 1 := ⟨by decide +kernel, rfl⟩
theorem dX3_isFull_1 : Dc cX3_isFull 1 (.getfield 35) 3 4 := ⟨by decide +kernel, rfl⟩
theorem dX3_isFull_4 : Dc cX3_isFull 4 (.aload_n 0) 1 5 := ⟨by decide +kernel, rfl⟩
theorem dX3_isFull_5 : Dc cX3_isFull 5 (.getfield 29) 3 8 := ⟨by decide +kernel, rfl⟩
theorem dX3_isFull_8 : Dc cX3_isFull 8 (.arraylength) 1 9 := ⟨by decide +kernel, rfl⟩
theorem dX3_isFull_9 : Db cX3_isFull 9 (fun o => .if_icmp .lt o) 12 16 := ⟨7, by decide +kernel, rfl, rfl⟩
theorem dX3_isFull_12 : Dc cX3_isFull 12 (.iconst 1) 1 13 := ⟨by decide +kernel, rfl⟩
theorem dX3_isFull_13 : Db cX3_isFull 13 .goto 16 17 := ⟨4, by decide +kernel, rfl, rfl⟩
theorem dX3_isFull_16 : Dc cX3_isFull 16 (.iconst 0) 1 17 := ⟨by decide +kernel, rfl⟩
theorem dX3_isFull_17 : Dc cX3_isFull 17 (.ireturn) 1 18 := ⟨by decide +kernel, rfl⟩
theorem dX3_hasStep_0 : Dc cX3_hasStep 0 (.iload_n 2) 1 1 := ⟨by decide +kernel, rfl⟩
theorem dX3_hasStep_1 : Db cX3_hasStep 1 (fun o => .ifCond .lt o) 4 17 := ⟨16, by decide +kernel, rfl, rfl⟩
theorem dX3_hasStep_4 : Dc cX3_hasStep 4 (.iload_n 2) 1 5 := ⟨by decide +kernel, rfl⟩
theorem dX3_hasStep_5 : Dc cX3_hasStep 5 (.aload_n 0) 1 6 := ⟨by decide +kernel, rfl⟩
theorem dX3_hasStep_6 : Dc cX3_hasStep 6 (.iload_n 1) 1 7 := ⟨by decide +kernel, rfl⟩
theorem dX3_hasStep_7 : Dc cX3_hasStep 7 (.invokevirtual 38) 3 10 := ⟨by decide +kernel, rfl⟩
theorem dX3_hasStep_10 : Db cX3_hasStep 10 (fun o => .if_icmp .ge o) 13 17 := ⟨7, by decide +kernel, rfl, rfl⟩
theorem dX3_hasStep_13 : Dc cX3_hasStep 13 (.iconst 1) 1 14 := ⟨by decide +kernel, rfl⟩
theorem dX3_hasStep_14 : Db cX3_hasStep 14 .goto 17 18 := ⟨4, by decide +kernel, rfl, rfl⟩
theorem dX3_hasStep_17 : Dc cX3_hasStep 17 (.iconst 0) 1 18 := ⟨by decide +kernel, rfl⟩
theorem dX3_hasStep_18 : Dc cX3_hasStep 18 (.ireturn) 1 19 := ⟨by decide +kernel, rfl⟩
theorem dX3_sizeOf_0 : Dc cX3_sizeOf 0 (.iload_n 1) 1 1 := ⟨by decide +kernel, rfl⟩
theorem dX3_sizeOf_1 : Db cX3_sizeOf 1 (fun o => .ifCond .lt o) 4 22 := ⟨21, by decide +kernel, rfl, rfl⟩
theorem dX3_sizeOf_4 : Dc cX3_sizeOf 4 (.iload_n 1) 1 5 := ⟨by decide +kernel, rfl⟩
theorem dX3_sizeOf_5 : Dc cX3_sizeOf 5 (.aload_n 0) 1 6 := ⟨by decide +kernel, rfl⟩
theorem dX3_sizeOf_6 : Dc cX3_sizeOf 6 (.getfield 29) 3 9 := ⟨by decide +kernel, rfl⟩
theorem dX3_sizeOf_9 : Dc cX3_sizeOf 9 (.arraylength) 1 10 := ⟨by decide +kernel, rfl⟩
theorem dX3_sizeOf_10 : Db cX3_sizeOf 10 (fun o => .if_icmp .ge o) 13 22 := ⟨12, by decide +kernel, rfl, rfl⟩
theorem dX3_sizeOf_13 : Dc cX3_sizeOf 13 (.aload_n 0) 1 14 := ⟨by decide +kernel, rfl⟩
theorem dX3_sizeOf_14 : Dc cX3_sizeOf 14 (.getfield 29) 3 17 := ⟨by decide +kernel, rfl⟩
theorem dX3_sizeOf_17 : Dc cX3_sizeOf 17 (.iload_n 1) 1 18 := ⟨by decide +kernel, rfl⟩
theorem dX3_sizeOf_18 : Dc cX3_sizeOf 18 (.iaload) 1 19 := ⟨by decide +kernel, rfl⟩
theorem dX3_sizeOf_19 : Db cX3_sizeOf 19 .goto 22 23 := ⟨4, by decide +kernel, rfl, rfl⟩
theorem dX3_sizeOf_22 : Dc cX3_sizeOf 22 (.iconst 0) 1 23 := ⟨by decide +kernel, rfl⟩
theorem dX3_sizeOf_23 : Dc cX3_sizeOf 23 (.ireturn) 1 24 := ⟨by decide +kernel, rfl⟩
theorem dX3_turnsOf_0 : Dc cX3_turnsOf 0 (.iload_n 1) 1 1 := ⟨by decide +kernel, rfl⟩
theorem dX3_turnsOf_1 : Db cX3_turnsOf 1 (fun o => .ifCond .lt o) 4 22 := ⟨21, by decide +kernel, rfl, rfl⟩
theorem dX3_turnsOf_4 : Dc cX3_turnsOf 4 (.iload_n 1) 1 5 := ⟨by decide +kernel, rfl⟩
theorem dX3_turnsOf_5 : Dc cX3_turnsOf 5 (.aload_n 0) 1 6 := ⟨by decide +kernel, rfl⟩
theorem dX3_turnsOf_6 : Dc cX3_turnsOf 6 (.getfield 32) 3 9 := ⟨by decide +kernel, rfl⟩
theorem dX3_turnsOf_9 : Dc cX3_turnsOf 9 (.arraylength) 1 10 := ⟨by decide +kernel, rfl⟩
theorem dX3_turnsOf_10 : Db cX3_turnsOf 10 (fun o => .if_icmp .ge o) 13 22 := ⟨12, by decide +kernel, rfl, rfl⟩
theorem dX3_turnsOf_13 : Dc cX3_turnsOf 13 (.aload_n 0) 1 14 := ⟨by decide +kernel, rfl⟩
theorem dX3_turnsOf_14 : Dc cX3_turnsOf 14 (.getfield 32) 3 17 := ⟨by decide +kernel, rfl⟩
theorem dX3_turnsOf_17 : Dc cX3_turnsOf 17 (.iload_n 1) 1 18 := ⟨by decide +kernel, rfl⟩
theorem dX3_turnsOf_18 : Dc cX3_turnsOf 18 (.iaload) 1 19 := ⟨by decide +kernel, rfl⟩
theorem dX3_turnsOf_19 : Db cX3_turnsOf 19 .goto 22 23 := ⟨4, by decide +kernel, rfl, rfl⟩
theorem dX3_turnsOf_22 : Dc cX3_turnsOf 22 (.iconst 0) 1 23 := ⟨by decide +kernel, rfl⟩
theorem dX3_turnsOf_23 : Dc cX3_turnsOf 23 (.ireturn) 1 24 := ⟨by decide +kernel, rfl⟩
theorem dX3_verbAt_0 : Dc cX3_verbAt 0 (.aload_n 0) 1 1 := ⟨by decide +kernel, rfl⟩
theorem dX3_verbAt_1 : Dc cX3_verbAt 1 (.aload_n 0) 1 2 := ⟨by decide +kernel, rfl⟩
theorem dX3_verbAt_2 : Dc cX3_verbAt 2 (.getfield 19) 3 5 := ⟨by decide +kernel, rfl⟩
theorem dX3_verbAt_5 : Dc cX3_verbAt 5 (.iload_n 1) 1 6 := ⟨by decide +kernel, rfl⟩
theorem dX3_verbAt_6 : Dc cX3_verbAt 6 (.iload_n 2) 1 7 := ⟨by decide +kernel, rfl⟩
theorem dX3_verbAt_7 : Dc cX3_verbAt 7 (.invokevirtual 42) 3 10 := ⟨by decide +kernel, rfl⟩
theorem dX3_verbAt_10 : Dc cX3_verbAt 10 (.ireturn) 1 11 := ⟨by decide +kernel, rfl⟩
theorem dX3_numberAt_0 : Dc cX3_numberAt 0 (.aload_n 0) 1 1 := ⟨by decide +kernel, rfl⟩
theorem dX3_numberAt_1 : Dc cX3_numberAt 1 (.aload_n 0) 1 2 := ⟨by decide +kernel, rfl⟩
theorem dX3_numberAt_2 : Dc cX3_numberAt 2 (.getfield 23) 3 5 := ⟨by decide +kernel, rfl⟩
theorem dX3_numberAt_5 : Dc cX3_numberAt 5 (.iload_n 1) 1 6 := ⟨by decide +kernel, rfl⟩
theorem dX3_numberAt_6 : Dc cX3_numberAt 6 (.iload_n 2) 1 7 := ⟨by decide +kernel, rfl⟩
theorem dX3_numberAt_7 : Dc cX3_numberAt 7 (.invokevirtual 42) 3 10 := ⟨by decide +kernel, rfl⟩
theorem dX3_numberAt_10 : Dc cX3_numberAt 10 (.ireturn) 1 11 := ⟨by decide +kernel, rfl⟩
theorem dX3_strideAt_0 : Dc cX3_strideAt 0 (.aload_n 0) 1 1 := ⟨by decide +kernel, rfl⟩
theorem dX3_strideAt_1 : Dc cX3_strideAt 1 (.aload_n 0) 1 2 := ⟨by decide +kernel, rfl⟩
theorem dX3_strideAt_2 : Dc cX3_strideAt 2 (.getfield 26) 3 5 := ⟨by decide +kernel, rfl⟩
theorem dX3_strideAt_5 : Dc cX3_strideAt 5 (.iload_n 1) 1 6 := ⟨by decide +kernel, rfl⟩
theorem dX3_strideAt_6 : Dc cX3_strideAt 6 (.iload_n 2) 1 7 := ⟨by decide +kernel, rfl⟩
theorem dX3_strideAt_7 : Dc cX3_strideAt 7 (.invokevirtual 42) 3 10 := ⟨by decide +kernel, rfl⟩
theorem dX3_strideAt_10 : Dc cX3_strideAt 10 (.ireturn) 1 11 := ⟨by decide +kernel, rfl⟩
theorem dX3_numberInTurn_0 : Dc cX3_numberInTurn 0 (.aload_n 0) 1 1 := ⟨by decide +kernel, rfl⟩
theorem dX3_numberInTurn_1 : Dc cX3_numberInTurn 1 (.iload_n 1) 1 2 := ⟨by decide +kernel, rfl⟩
theorem dX3_numberInTurn_2 : Dc cX3_numberInTurn 2 (.iload_n 2) 1 3 := ⟨by decide +kernel, rfl⟩
theorem dX3_numberInTurn_3 : Dc cX3_numberInTurn 3 (.invokevirtual 46) 3 6 := ⟨by decide +kernel, rfl⟩
theorem dX3_numberInTurn_6 : Dc cX3_numberInTurn 6 (.iload_n 3) 1 7 := ⟨by decide +kernel, rfl⟩
theorem dX3_numberInTurn_7 : Dc cX3_numberInTurn 7 (.aload_n 0) 1 8 := ⟨by decide +kernel, rfl⟩
theorem dX3_numberInTurn_8 : Dc cX3_numberInTurn 8 (.iload_n 1) 1 9 := ⟨by decide +kernel, rfl⟩
theorem dX3_numberInTurn_9 : Dc cX3_numberInTurn 9 (.iload_n 2) 1 10 := ⟨by decide +kernel, rfl⟩
theorem dX3_numberInTurn_10 : Dc cX3_numberInTurn 10 (.invokevirtual 49) 3 13 := ⟨by decide +kernel, rfl⟩
theorem dX3_numberInTurn_13 : Dc cX3_numberInTurn 13 (.imul) 1 14 := ⟨by decide +kernel, rfl⟩
theorem dX3_numberInTurn_14 : Dc cX3_numberInTurn 14 (.iadd) 1 15 := ⟨by decide +kernel, rfl⟩
theorem dX3_numberInTurn_15 : Dc cX3_numberInTurn 15 (.ireturn) 1 16 := ⟨by decide +kernel, rfl⟩
theorem dX3_haveSameVerbs_0 : Dc cX3_haveSameVerbs 0 (.aload_n 0) 1 1 := ⟨by decide +kernel, rfl⟩
theorem dX3_haveSameVerbs_1 : Dc cX3_haveSameVerbs 1 (.iload_n 1) 1 2 := ⟨by decide +kernel, rfl⟩
theorem dX3_haveSameVerbs_2 : Dc cX3_haveSameVerbs 2 (.invokevirtual 38) 3 5 := ⟨by decide +kernel, rfl⟩
theorem dX3_haveSameVerbs_5 : Dc cX3_haveSameVerbs 5 (.istore_n 3) 1 6 := ⟨by decide +kernel, rfl⟩
theorem dX3_haveSameVerbs_6 : Dc cX3_haveSameVerbs 6 (.iload_n 3) 1 7 := ⟨by decide +kernel, rfl⟩
theorem dX3_haveSameVerbs_7 : Dc cX3_haveSameVerbs 7 (.aload_n 0) 1 8 := ⟨by decide +kernel, rfl⟩
theorem dX3_haveSameVerbs_8 : Dc cX3_haveSameVerbs 8 (.iload_n 2) 1 9 := ⟨by decide +kernel, rfl⟩
theorem dX3_haveSameVerbs_9 : Dc cX3_haveSameVerbs 9 (.invokevirtual 38) 3 12 := ⟨by decide +kernel, rfl⟩
theorem dX3_haveSameVerbs_12 : Db cX3_haveSameVerbs 12 (fun o => .if_icmp .eq o) 15 17 := ⟨5, by decide +kernel, rfl, rfl⟩
theorem dX3_haveSameVerbs_15 : Dc cX3_haveSameVerbs 15 (.iconst 0) 1 16 := ⟨by decide +kernel, rfl⟩
theorem dX3_haveSameVerbs_16 : Dc cX3_haveSameVerbs 16 (.ireturn) 1 17 := ⟨by decide +kernel, rfl⟩
theorem dX3_haveSameVerbs_17 : Dc cX3_haveSameVerbs 17 (.iconst 0) 1 18 := ⟨by decide +kernel, rfl⟩
theorem dX3_haveSameVerbs_18 : Dc cX3_haveSameVerbs 18 (.istore 4) 2 20 := ⟨by decide +kernel, rfl⟩
theorem dX3_haveSameVerbs_20 : Dc cX3_haveSameVerbs 20 (.iload 4) 2 22 := ⟨by decide +kernel, rfl⟩
theorem dX3_haveSameVerbs_22 : Dc cX3_haveSameVerbs 22 (.iload_n 3) 1 23 := ⟨by decide +kernel, rfl⟩
theorem dX3_haveSameVerbs_23 : Db cX3_haveSameVerbs 23 (fun o => .if_icmp .ge o) 26 51 := ⟨28, by decide +kernel, rfl, rfl⟩
theorem dX3_haveSameVerbs_26 : Dc cX3_haveSameVerbs 26 (.aload_n 0) 1 27 := ⟨by decide +kernel, rfl⟩
theorem dX3_haveSameVerbs_27 : Dc cX3_haveSameVerbs 27 (.iload_n 1) 1 28 := ⟨by decide +kernel, rfl⟩
theorem dX3_haveSameVerbs_28 : Dc cX3_haveSameVerbs 28 (.iload 4) 2 30 := ⟨by decide +kernel, rfl⟩
theorem dX3_haveSameVerbs_30 : Dc cX3_haveSameVerbs 30 (.invokevirtual 52) 3 33 := ⟨by decide +kernel, rfl⟩
theorem dX3_haveSameVerbs_33 : Dc cX3_haveSameVerbs 33 (.aload_n 0) 1 34 := ⟨by decide +kernel, rfl⟩
theorem dX3_haveSameVerbs_34 : Dc cX3_haveSameVerbs 34 (.iload_n 2) 1 35 := ⟨by decide +kernel, rfl⟩
theorem dX3_haveSameVerbs_35 : Dc cX3_haveSameVerbs 35 (.iload 4) 2 37 := ⟨by decide +kernel, rfl⟩
theorem dX3_haveSameVerbs_37 : Dc cX3_haveSameVerbs 37 (.invokevirtual 52) 3 40 := ⟨by decide +kernel, rfl⟩
theorem dX3_haveSameVerbs_40 : Db cX3_haveSameVerbs 40 (fun o => .if_icmp .eq o) 43 45 := ⟨5, by decide +kernel, rfl, rfl⟩
theorem dX3_haveSameVerbs_43 : Dc cX3_haveSameVerbs 43 (.iconst 0) 1 44 := ⟨by decide +kernel, rfl⟩
theorem dX3_haveSameVerbs_44 : Dc cX3_haveSameVerbs 44 (.ireturn) 1 45 := ⟨by decide +kernel, rfl⟩
theorem dX3_haveSameVerbs_45 : Dc cX3_haveSameVerbs 45 (.iinc 4 1) 3 48 := ⟨by decide +kernel, rfl⟩
theorem dX3_haveSameVerbs_48 : Db cX3_haveSameVerbs 48 .goto 51 20 := ⟨-28, by decide +kernel, rfl, rfl⟩
theorem dX3_haveSameVerbs_51 : Dc cX3_haveSameVerbs 51 (.iconst 1) 1 52 := ⟨by decide +kernel, rfl⟩
theorem dX3_haveSameVerbs_52 : Dc cX3_haveSameVerbs 52 (.ireturn) 1 53 := ⟨by decide +kernel, rfl⟩
theorem dX3_emptyNext_0 : Dc cX3_emptyNext 0 (.aload_n 0) 1 1 := ⟨by decide +kernel, rfl⟩
theorem dX3_emptyNext_1 : Dc cX3_emptyNext 1 (.aload_n 0) 1 2 := ⟨by decide +kernel, rfl⟩
theorem dX3_emptyNext_2 : Dc cX3_emptyNext 2 (.getfield 35) 3 5 := ⟨by decide +kernel, rfl⟩
theorem dX3_emptyNext_5 : Dc cX3_emptyNext 5 (.invokevirtual 55) 3 8 := ⟨by decide +kernel, rfl⟩
theorem dX3_emptyNext_8 : Db cX3_emptyNext 8 (fun o => .ifCond .eq o) 11 21 := ⟨13, by decide +kernel, rfl, rfl⟩
theorem dX3_emptyNext_11 : Dc cX3_emptyNext 11 (.aload_n 0) 1 12 := ⟨by decide +kernel, rfl⟩
theorem dX3_emptyNext_12 : Dc cX3_emptyNext 12 (.getfield 29) 3 15 := ⟨by decide +kernel, rfl⟩
theorem dX3_emptyNext_15 : Dc cX3_emptyNext 15 (.aload_n 0) 1 16 := ⟨by decide +kernel, rfl⟩
theorem dX3_emptyNext_16 : Dc cX3_emptyNext 16 (.getfield 35) 3 19 := ⟨by decide +kernel, rfl⟩
theorem dX3_emptyNext_19 : Dc cX3_emptyNext 19 (.iconst 0) 1 20 := ⟨by decide +kernel, rfl⟩
theorem dX3_emptyNext_20 : Dc cX3_emptyNext 20 (.iastore) 1 21 := ⟨by decide +kernel, rfl⟩
theorem dX3_emptyNext_21 : Dc cX3_emptyNext 21 (.return_) 1 22 := ⟨by decide +kernel, rfl⟩
theorem dX3_keepNext_0 : Dc cX3_keepNext 0 (.aload_n 0) 1 1 := ⟨by decide +kernel, rfl⟩
theorem dX3_keepNext_1 : Dc cX3_keepNext 1 (.getfield 35) 3 4 := ⟨by decide +kernel, rfl⟩
theorem dX3_keepNext_4 : Dc cX3_keepNext 4 (.istore_n 2) 1 5 := ⟨by decide +kernel, rfl⟩
theorem dX3_keepNext_5 : Dc cX3_keepNext 5 (.aload_n 0) 1 6 := ⟨by decide +kernel, rfl⟩
theorem dX3_keepNext_6 : Dc cX3_keepNext 6 (.iload_n 2) 1 7 := ⟨by decide +kernel, rfl⟩
theorem dX3_keepNext_7 : Dc cX3_keepNext 7 (.iload_n 1) 1 8 := ⟨by decide +kernel, rfl⟩
theorem dX3_keepNext_8 : Dc cX3_keepNext 8 (.invokevirtual 59) 3 11 := ⟨by decide +kernel, rfl⟩
theorem dX3_keepNext_11 : Dc cX3_keepNext 11 (.aload_n 0) 1 12 := ⟨by decide +kernel, rfl⟩
theorem dX3_keepNext_12 : Dc cX3_keepNext 12 (.invokevirtual 63) 3 15 := ⟨by decide +kernel, rfl⟩
theorem dX3_keepNext_15 : Db cX3_keepNext 15 (fun o => .ifCond .ne o) 18 28 := ⟨13, by decide +kernel, rfl, rfl⟩
theorem dX3_keepNext_18 : Dc cX3_keepNext 18 (.aload_n 0) 1 19 := ⟨by decide +kernel, rfl⟩
theorem dX3_keepNext_19 : Dc cX3_keepNext 19 (.dup) 1 20 := ⟨by decide +kernel, rfl⟩
theorem dX3_keepNext_20 : Dc cX3_keepNext 20 (.getfield 35) 3 23 := ⟨by decide +kernel, rfl⟩
theorem dX3_keepNext_23 : Dc cX3_keepNext 23 (.iconst 1) 1 24 := ⟨by decide +kernel, rfl⟩
theorem dX3_keepNext_24 : Dc cX3_keepNext 24 (.iadd) 1 25 := ⟨by decide +kernel, rfl⟩
theorem dX3_keepNext_25 : Dc cX3_keepNext 25 (.putfield 35) 3 28 := ⟨by decide +kernel, rfl⟩
theorem dX3_keepNext_28 : Dc cX3_keepNext 28 (.iload_n 2) 1 29 := ⟨by decide +kernel, rfl⟩
theorem dX3_keepNext_29 : Dc cX3_keepNext 29 (.ireturn) 1 30 := ⟨by decide +kernel, rfl⟩
theorem dX3_giveTurns_0 : Dc cX3_giveTurns 0 (.iload_n 1) 1 1 := ⟨by decide +kernel, rfl⟩
theorem dX3_giveTurns_1 : Db cX3_giveTurns 1 (fun o => .ifCond .lt o) 4 20 := ⟨19, by decide +kernel, rfl, rfl⟩
theorem dX3_giveTurns_4 : Dc cX3_giveTurns 4 (.iload_n 1) 1 5 := ⟨by decide +kernel, rfl⟩
theorem dX3_giveTurns_5 : Dc cX3_giveTurns 5 (.aload_n 0) 1 6 := ⟨by decide +kernel, rfl⟩
theorem dX3_giveTurns_6 : Dc cX3_giveTurns 6 (.getfield 32) 3 9 := ⟨by decide +kernel, rfl⟩
theorem dX3_giveTurns_9 : Dc cX3_giveTurns 9 (.arraylength) 1 10 := ⟨by decide +kernel, rfl⟩
theorem dX3_giveTurns_10 : Db cX3_giveTurns 10 (fun o => .if_icmp .ge o) 13 20 := ⟨10, by decide +kernel, rfl, rfl⟩
theorem dX3_giveTurns_13 : Dc cX3_giveTurns 13 (.aload_n 0) 1 14 := ⟨by decide +kernel, rfl⟩
theorem dX3_giveTurns_14 : Dc cX3_giveTurns 14 (.getfield 32) 3 17 := ⟨by decide +kernel, rfl⟩
theorem dX3_giveTurns_17 : Dc cX3_giveTurns 17 (.iload_n 1) 1 18 := ⟨by decide +kernel, rfl⟩
theorem dX3_giveTurns_18 : Dc cX3_giveTurns 18 (.iload_n 2) 1 19 := ⟨by decide +kernel, rfl⟩
theorem dX3_giveTurns_19 : Dc cX3_giveTurns 19 (.iastore) 1 20 := ⟨by decide +kernel, rfl⟩
theorem dX3_giveTurns_20 : Dc cX3_giveTurns 20 (.return_) 1 21 := ⟨by decide +kernel, rfl⟩
theorem dX3_append_0 : Dc cX3_append 0 (.aload_n 0) 1 1 := ⟨by decide +kernel, rfl⟩
theorem dX3_append_1 : Dc cX3_append 1 (.iload_n 1) 1 2 := ⟨by decide +kernel, rfl⟩
theorem dX3_append_2 : Dc cX3_append 2 (.invokevirtual 38) 3 5 := ⟨by decide +kernel, rfl⟩
theorem dX3_append_5 : Dc cX3_append 5 (.istore 5) 2 7 := ⟨by decide +kernel, rfl⟩
theorem dX3_append_7 : Dc cX3_append 7 (.iload_n 1) 1 8 := ⟨by decide +kernel, rfl⟩
theorem dX3_append_8 : Dc cX3_append 8 (.aload_n 0) 1 9 := ⟨by decide +kernel, rfl⟩
theorem dX3_append_9 : Dc cX3_append 9 (.getfield 13) 3 12 := ⟨by decide +kernel, rfl⟩
theorem dX3_append_12 : Dc cX3_append 12 (.imul) 1 13 := ⟨by decide +kernel, rfl⟩
theorem dX3_append_13 : Dc cX3_append 13 (.iload 5) 2 15 := ⟨by decide +kernel, rfl⟩
theorem dX3_append_15 : Dc cX3_append 15 (.iadd) 1 16 := ⟨by decide +kernel, rfl⟩
theorem dX3_append_16 : Dc cX3_append 16 (.istore 6) 2 18 := ⟨by decide +kernel, rfl⟩
theorem dX3_append_18 : Dc cX3_append 18 (.aload_n 0) 1 19 := ⟨by decide +kernel, rfl⟩
theorem dX3_append_19 : Dc cX3_append 19 (.iload_n 1) 1 20 := ⟨by decide +kernel, rfl⟩
theorem dX3_append_20 : Dc cX3_append 20 (.invokevirtual 55) 3 23 := ⟨by decide +kernel, rfl⟩
theorem dX3_append_23 : Db cX3_append 23 (fun o => .ifCond .eq o) 26 85 := ⟨62, by decide +kernel, rfl, rfl⟩
theorem dX3_append_26 : Dc cX3_append 26 (.iload 5) 2 28 := ⟨by decide +kernel, rfl⟩
theorem dX3_append_28 : Dc cX3_append 28 (.aload_n 0) 1 29 := ⟨by decide +kernel, rfl⟩
theorem dX3_append_29 : Dc cX3_append 29 (.getfield 13) 3 32 := ⟨by decide +kernel, rfl⟩
theorem dX3_append_32 : Db cX3_append 32 (fun o => .if_icmp .ge o) 35 85 := ⟨53, by decide +kernel, rfl, rfl⟩
theorem dX3_append_35 : Dc cX3_append 35 (.iload 6) 2 37 := ⟨by decide +kernel, rfl⟩
theorem dX3_append_37 : Db cX3_append 37 (fun o => .ifCond .lt o) 40 85 := ⟨48, by decide +kernel, rfl, rfl⟩
theorem dX3_append_40 : Dc cX3_append 40 (.iload 6) 2 42 := ⟨by decide +kernel, rfl⟩
theorem dX3_append_42 : Dc cX3_append 42 (.aload_n 0) 1 43 := ⟨by decide +kernel, rfl⟩
theorem dX3_append_43 : Dc cX3_append 43 (.getfield 19) 3 46 := ⟨by decide +kernel, rfl⟩
theorem dX3_append_46 : Dc cX3_append 46 (.arraylength) 1 47 := ⟨by decide +kernel, rfl⟩
theorem dX3_append_47 : Db cX3_append 47 (fun o => .if_icmp .ge o) 50 85 := ⟨38, by decide +kernel, rfl, rfl⟩
theorem dX3_append_50 : Dc cX3_append 50 (.aload_n 0) 1 51 := ⟨by decide +kernel, rfl⟩
theorem dX3_append_51 : Dc cX3_append 51 (.getfield 19) 3 54 := ⟨by decide +kernel, rfl⟩
theorem dX3_append_54 : Dc cX3_append 54 (.iload 6) 2 56 := ⟨by decide +kernel, rfl⟩
theorem dX3_append_56 : Dc cX3_append 56 (.iload_n 2) 1 57 := ⟨by decide +kernel, rfl⟩
theorem dX3_append_57 : Dc cX3_append 57 (.iastore) 1 58 := ⟨by decide +kernel, rfl⟩
theorem dX3_append_58 : Dc cX3_append 58 (.aload_n 0) 1 59 := ⟨by decide +kernel, rfl⟩
theorem dX3_append_59 : Dc cX3_append 59 (.getfield 23) 3 62 := ⟨by decide +kernel, rfl⟩
theorem dX3_append_62 : Dc cX3_append 62 (.iload 6) 2 64 := ⟨by decide +kernel, rfl⟩
theorem dX3_append_64 : Dc cX3_append 64 (.iload_n 3) 1 65 := ⟨by decide +kernel, rfl⟩
theorem dX3_append_65 : Dc cX3_append 65 (.iastore) 1 66 := ⟨by decide +kernel, rfl⟩
theorem dX3_append_66 : Dc cX3_append 66 (.aload_n 0) 1 67 := ⟨by decide +kernel, rfl⟩
theorem dX3_append_67 : Dc cX3_append 67 (.getfield 26) 3 70 := ⟨by decide +kernel, rfl⟩
theorem dX3_append_70 : Dc cX3_append 70 (.iload 6) 2 72 := ⟨by decide +kernel, rfl⟩
theorem dX3_append_72 : Dc cX3_append 72 (.iload 4) 2 74 := ⟨by decide +kernel, rfl⟩
theorem dX3_append_74 : Dc cX3_append 74 (.iastore) 1 75 := ⟨by decide +kernel, rfl⟩
theorem dX3_append_75 : Dc cX3_append 75 (.aload_n 0) 1 76 := ⟨by decide +kernel, rfl⟩
theorem dX3_append_76 : Dc cX3_append 76 (.getfield 29) 3 79 := ⟨by decide +kernel, rfl⟩
theorem dX3_append_79 : Dc cX3_append 79 (.iload_n 1) 1 80 := ⟨by decide +kernel, rfl⟩
theorem dX3_append_80 : Dc cX3_append 80 (.iload 5) 2 82 := ⟨by decide +kernel, rfl⟩
theorem dX3_append_82 : Dc cX3_append 82 (.iconst 1) 1 83 := ⟨by decide +kernel, rfl⟩
theorem dX3_append_83 : Dc cX3_append 83 (.iadd) 1 84 := ⟨by decide +kernel, rfl⟩
theorem dX3_append_84 : Dc cX3_append 84 (.iastore) 1 85 := ⟨by decide +kernel, rfl⟩
theorem dX3_append_85 : Dc cX3_append 85 (.return_) 1 86 := ⟨by decide +kernel, rfl⟩
theorem dX3_drop_0 : Dc cX3_drop 0 (.aload_n 0) 1 1 := ⟨by decide +kernel, rfl⟩
theorem dX3_drop_1 : Dc cX3_drop 1 (.iload_n 1) 1 2 := ⟨by decide +kernel, rfl⟩
theorem dX3_drop_2 : Dc cX3_drop 2 (.invokevirtual 67) 3 5 := ⟨by decide +kernel, rfl⟩
theorem dX3_drop_5 : Db cX3_drop 5 (fun o => .ifCond .ne o) 8 9 := ⟨4, by decide +kernel, rfl, rfl⟩
theorem dX3_drop_8 : Dc cX3_drop 8 (.return_) 1 9 := ⟨by decide +kernel, rfl⟩
theorem dX3_drop_9 : Dc cX3_drop 9 (.aload_n 0) 1 10 := ⟨by decide +kernel, rfl⟩
theorem dX3_drop_10 : Dc cX3_drop 10 (.getfield 19) 3 13 := ⟨by decide +kernel, rfl⟩
theorem dX3_drop_13 : Dc cX3_drop 13 (.iload_n 1) 1 14 := ⟨by decide +kernel, rfl⟩
theorem dX3_drop_14 : Dc cX3_drop 14 (.aload_n 0) 1 15 := ⟨by decide +kernel, rfl⟩
theorem dX3_drop_15 : Dc cX3_drop 15 (.getfield 13) 3 18 := ⟨by decide +kernel, rfl⟩
theorem dX3_drop_18 : Dc cX3_drop 18 (.invokestatic 70) 3 21 := ⟨by decide +kernel, rfl⟩
theorem dX3_drop_21 : Dc cX3_drop 21 (.aload_n 0) 1 22 := ⟨by decide +kernel, rfl⟩
theorem dX3_drop_22 : Dc cX3_drop 22 (.getfield 23) 3 25 := ⟨by decide +kernel, rfl⟩
theorem dX3_drop_25 : Dc cX3_drop 25 (.iload_n 1) 1 26 := ⟨by decide +kernel, rfl⟩
theorem dX3_drop_26 : Dc cX3_drop 26 (.aload_n 0) 1 27 := ⟨by decide +kernel, rfl⟩
theorem dX3_drop_27 : Dc cX3_drop 27 (.getfield 13) 3 30 := ⟨by decide +kernel, rfl⟩
theorem dX3_drop_30 : Dc cX3_drop 30 (.invokestatic 70) 3 33 := ⟨by decide +kernel, rfl⟩
theorem dX3_drop_33 : Dc cX3_drop 33 (.aload_n 0) 1 34 := ⟨by decide +kernel, rfl⟩
theorem dX3_drop_34 : Dc cX3_drop 34 (.getfield 26) 3 37 := ⟨by decide +kernel, rfl⟩
theorem dX3_drop_37 : Dc cX3_drop 37 (.iload_n 1) 1 38 := ⟨by decide +kernel, rfl⟩
theorem dX3_drop_38 : Dc cX3_drop 38 (.aload_n 0) 1 39 := ⟨by decide +kernel, rfl⟩
theorem dX3_drop_39 : Dc cX3_drop 39 (.getfield 13) 3 42 := ⟨by decide +kernel, rfl⟩
theorem dX3_drop_42 : Dc cX3_drop 42 (.invokestatic 70) 3 45 := ⟨by decide +kernel, rfl⟩
theorem dX3_drop_45 : Dc cX3_drop 45 (.aload_n 0) 1 46 := ⟨by decide +kernel, rfl⟩
theorem dX3_drop_46 : Dc cX3_drop 46 (.getfield 29) 3 49 := ⟨by decide +kernel, rfl⟩
theorem dX3_drop_49 : Dc cX3_drop 49 (.iload_n 1) 1 50 := ⟨by decide +kernel, rfl⟩
theorem dX3_drop_50 : Dc cX3_drop 50 (.iconst 1) 1 51 := ⟨by decide +kernel, rfl⟩
theorem dX3_drop_51 : Dc cX3_drop 51 (.invokestatic 70) 3 54 := ⟨by decide +kernel, rfl⟩
theorem dX3_drop_54 : Dc cX3_drop 54 (.aload_n 0) 1 55 := ⟨by decide +kernel, rfl⟩
theorem dX3_drop_55 : Dc cX3_drop 55 (.getfield 32) 3 58 := ⟨by decide +kernel, rfl⟩
theorem dX3_drop_58 : Dc cX3_drop 58 (.iload_n 1) 1 59 := ⟨by decide +kernel, rfl⟩
theorem dX3_drop_59 : Dc cX3_drop 59 (.iconst 1) 1 60 := ⟨by decide +kernel, rfl⟩
theorem dX3_drop_60 : Dc cX3_drop 60 (.invokestatic 70) 3 63 := ⟨by decide +kernel, rfl⟩
theorem dX3_drop_63 : Dc cX3_drop 63 (.aload_n 0) 1 64 := ⟨by decide +kernel, rfl⟩
theorem dX3_drop_64 : Dc cX3_drop 64 (.dup) 1 65 := ⟨by decide +kernel, rfl⟩
theorem dX3_drop_65 : Dc cX3_drop 65 (.getfield 35) 3 68 := ⟨by decide +kernel, rfl⟩
theorem dX3_drop_68 : Dc cX3_drop 68 (.iconst 1) 1 69 := ⟨by decide +kernel, rfl⟩
theorem dX3_drop_69 : Dc cX3_drop 69 (.isub) 1 70 := ⟨by decide +kernel, rfl⟩
theorem dX3_drop_70 : Dc cX3_drop 70 (.putfield 35) 3 73 := ⟨by decide +kernel, rfl⟩
theorem dX3_drop_73 : Dc cX3_drop 73 (.return_) 1 74 := ⟨by decide +kernel, rfl⟩
theorem dX3_clear_0 : Dc cX3_clear 0 (.aload_n 0) 1 1 := ⟨by decide +kernel, rfl⟩
theorem dX3_clear_1 : Dc cX3_clear 1 (.iconst 0) 1 2 := ⟨by decide +kernel, rfl⟩
theorem dX3_clear_2 : Dc cX3_clear 2 (.putfield 35) 3 5 := ⟨by decide +kernel, rfl⟩
theorem dX3_clear_5 : Dc cX3_clear 5 (.return_) 1 6 := ⟨by decide +kernel, rfl⟩
theorem dX3_copyFrom_0 : Dc cX3_copyFrom 0 (.aload_n 1) 1 1 := ⟨by decide +kernel, rfl⟩
theorem dX3_copyFrom_1 : Dc cX3_copyFrom 1 (.getfield 19) 3 4 := ⟨by decide +kernel, rfl⟩
theorem dX3_copyFrom_4 : Dc cX3_copyFrom 4 (.aload_n 0) 1 5 := ⟨by decide +kernel, rfl⟩
theorem dX3_copyFrom_5 : Dc cX3_copyFrom 5 (.getfield 19) 3 8 := ⟨by decide +kernel, rfl⟩
theorem dX3_copyFrom_8 : Dc cX3_copyFrom 8 (.invokestatic 74) 3 11 := ⟨by decide +kernel, rfl⟩
theorem dX3_copyFrom_11 : Dc cX3_copyFrom 11 (.aload_n 1) 1 12 := ⟨by decide +kernel, rfl⟩
theorem dX3_copyFrom_12 : Dc cX3_copyFrom 12 (.getfield 23) 3 15 := ⟨by decide +kernel, rfl⟩
theorem dX3_copyFrom_15 : Dc cX3_copyFrom 15 (.aload_n 0) 1 16 := ⟨by decide +kernel, rfl⟩
theorem dX3_copyFrom_16 : Dc cX3_copyFrom 16 (.getfield 23) 3 19 := ⟨by decide +kernel, rfl⟩
theorem dX3_copyFrom_19 : Dc cX3_copyFrom 19 (.invokestatic 74) 3 22 := ⟨by decide +kernel, rfl⟩
theorem dX3_copyFrom_22 : Dc cX3_copyFrom 22 (.aload_n 1) 1 23 := ⟨by decide +kernel, rfl⟩
theorem dX3_copyFrom_23 : Dc cX3_copyFrom 23 (.getfield 26) 3 26 := ⟨by decide +kernel, rfl⟩
theorem dX3_copyFrom_26 : Dc cX3_copyFrom 26 (.aload_n 0) 1 27 := ⟨by decide +kernel, rfl⟩
theorem dX3_copyFrom_27 : Dc cX3_copyFrom 27 (.getfield 26) 3 30 := ⟨by decide +kernel, rfl⟩
theorem dX3_copyFrom_30 : Dc cX3_copyFrom 30 (.invokestatic 74) 3 33 := ⟨by decide +kernel, rfl⟩
theorem dX3_copyFrom_33 : Dc cX3_copyFrom 33 (.aload_n 1) 1 34 := ⟨by decide +kernel, rfl⟩
theorem dX3_copyFrom_34 : Dc cX3_copyFrom 34 (.getfield 29) 3 37 := ⟨by decide +kernel, rfl⟩
theorem dX3_copyFrom_37 : Dc cX3_copyFrom 37 (.aload_n 0) 1 38 := ⟨by decide +kernel, rfl⟩
theorem dX3_copyFrom_38 : Dc cX3_copyFrom 38 (.getfield 29) 3 41 := ⟨by decide +kernel, rfl⟩
theorem dX3_copyFrom_41 : Dc cX3_copyFrom 41 (.invokestatic 74) 3 44 := ⟨by decide +kernel, rfl⟩
theorem dX3_copyFrom_44 : Dc cX3_copyFrom 44 (.aload_n 1) 1 45 := ⟨by decide +kernel, rfl⟩
theorem dX3_copyFrom_45 : Dc cX3_copyFrom 45 (.getfield 32) 3 48 := ⟨by decide +kernel, rfl⟩
theorem dX3_copyFrom_48 : Dc cX3_copyFrom 48 (.aload_n 0) 1 49 := ⟨by decide +kernel, rfl⟩
theorem dX3_copyFrom_49 : Dc cX3_copyFrom 49 (.getfield 32) 3 52 := ⟨by decide +kernel, rfl⟩
theorem dX3_copyFrom_52 : Dc cX3_copyFrom 52 (.invokestatic 74) 3 55 := ⟨by decide +kernel, rfl⟩
theorem dX3_copyFrom_55 : Dc cX3_copyFrom 55 (.aload_n 0) 1 56 := ⟨by decide +kernel, rfl⟩
theorem dX3_copyFrom_56 : Dc cX3_copyFrom 56 (.aload_n 1) 1 57 := ⟨by decide +kernel, rfl⟩
theorem dX3_copyFrom_57 : Dc cX3_copyFrom 57 (.getfield 35) 3 60 := ⟨by decide +kernel, rfl⟩
theorem dX3_copyFrom_60 : Dc cX3_copyFrom 60 (.putfield 35) 3 63 := ⟨by decide +kernel, rfl⟩
theorem dX3_copyFrom_63 : Dc cX3_copyFrom 63 (.return_) 1 64 := ⟨by decide +kernel, rfl⟩
theorem dX3_hasPlace_0 : Dc cX3_hasPlace 0 (.iload_n 1) 1 1 := ⟨by decide +kernel, rfl⟩
theorem dX3_hasPlace_1 : Db cX3_hasPlace 1 (fun o => .ifCond .lt o) 4 17 := ⟨16, by decide +kernel, rfl, rfl⟩
theorem dX3_hasPlace_4 : Dc cX3_hasPlace 4 (.iload_n 1) 1 5 := ⟨by decide +kernel, rfl⟩
theorem dX3_hasPlace_5 : Dc cX3_hasPlace 5 (.aload_n 0) 1 6 := ⟨by decide +kernel, rfl⟩
theorem dX3_hasPlace_6 : Dc cX3_hasPlace 6 (.getfield 29) 3 9 := ⟨by decide +kernel, rfl⟩
theorem dX3_hasPlace_9 : Dc cX3_hasPlace 9 (.arraylength) 1 10 := ⟨by decide +kernel, rfl⟩
theorem dX3_hasPlace_10 : Db cX3_hasPlace 10 (fun o => .if_icmp .ge o) 13 17 := ⟨7, by decide +kernel, rfl, rfl⟩
theorem dX3_hasPlace_13 : Dc cX3_hasPlace 13 (.iconst 1) 1 14 := ⟨by decide +kernel, rfl⟩
theorem dX3_hasPlace_14 : Db cX3_hasPlace 14 .goto 17 18 := ⟨4, by decide +kernel, rfl, rfl⟩
theorem dX3_hasPlace_17 : Dc cX3_hasPlace 17 (.iconst 0) 1 18 := ⟨by decide +kernel, rfl⟩
theorem dX3_hasPlace_18 : Dc cX3_hasPlace 18 (.ireturn) 1 19 := ⟨by decide +kernel, rfl⟩
theorem dX3_look_0 : Dc cX3_look 0 (.iload_n 2) 1 1 := ⟨by decide +kernel, rfl⟩
theorem dX3_look_1 : Dc cX3_look 1 (.aload_n 0) 1 2 := ⟨by decide +kernel, rfl⟩
theorem dX3_look_2 : Dc cX3_look 2 (.getfield 13) 3 5 := ⟨by decide +kernel, rfl⟩
theorem dX3_look_5 : Dc cX3_look 5 (.imul) 1 6 := ⟨by decide +kernel, rfl⟩
theorem dX3_look_6 : Dc cX3_look 6 (.iload_n 3) 1 7 := ⟨by decide +kernel, rfl⟩
theorem dX3_look_7 : Dc cX3_look 7 (.iadd) 1 8 := ⟨by decide +kernel, rfl⟩
theorem dX3_look_8 : Dc cX3_look 8 (.istore 4) 2 10 := ⟨by decide +kernel, rfl⟩
theorem dX3_look_10 : Dc cX3_look 10 (.iload_n 3) 1 11 := ⟨by decide +kernel, rfl⟩
theorem dX3_look_11 : Db cX3_look 11 (fun o => .ifCond .lt o) 14 41 := ⟨30, by decide +kernel, rfl, rfl⟩
theorem dX3_look_14 : Dc cX3_look 14 (.iload_n 3) 1 15 := ⟨by decide +kernel, rfl⟩
theorem dX3_look_15 : Dc cX3_look 15 (.aload_n 0) 1 16 := ⟨by decide +kernel, rfl⟩
theorem dX3_look_16 : Dc cX3_look 16 (.getfield 13) 3 19 := ⟨by decide +kernel, rfl⟩
theorem dX3_look_19 : Db cX3_look 19 (fun o => .if_icmp .ge o) 22 41 := ⟨22, by decide +kernel, rfl, rfl⟩
theorem dX3_look_22 : Dc cX3_look 22 (.iload 4) 2 24 := ⟨by decide +kernel, rfl⟩
theorem dX3_look_24 : Db cX3_look 24 (fun o => .ifCond .lt o) 27 41 := ⟨17, by decide +kernel, rfl, rfl⟩
theorem dX3_look_27 : Dc cX3_look 27 (.iload 4) 2 29 := ⟨by decide +kernel, rfl⟩
theorem dX3_look_29 : Dc cX3_look 29 (.aload_n 1) 1 30 := ⟨by decide +kernel, rfl⟩
theorem dX3_look_30 : Dc cX3_look 30 (.arraylength) 1 31 := ⟨by decide +kernel, rfl⟩
theorem dX3_look_31 : Db cX3_look 31 (fun o => .if_icmp .ge o) 34 41 := ⟨10, by decide +kernel, rfl, rfl⟩
theorem dX3_look_34 : Dc cX3_look 34 (.aload_n 1) 1 35 := ⟨by decide +kernel, rfl⟩
theorem dX3_look_35 : Dc cX3_look 35 (.iload 4) 2 37 := ⟨by decide +kernel, rfl⟩
theorem dX3_look_37 : Dc cX3_look 37 (.iaload) 1 38 := ⟨by decide +kernel, rfl⟩
theorem dX3_look_38 : Db cX3_look 38 .goto 41 42 := ⟨4, by decide +kernel, rfl, rfl⟩
theorem dX3_look_41 : Dc cX3_look 41 (.iconst 0) 1 42 := ⟨by decide +kernel, rfl⟩
theorem dX3_look_42 : Dc cX3_look 42 (.ireturn) 1 43 := ⟨by decide +kernel, rfl⟩
theorem dX3_moveUp_0 : Dc cX3_moveUp 0 (.iload_n 1) 1 1 := ⟨by decide +kernel, rfl⟩
theorem dX3_moveUp_1 : Dc cX3_moveUp 1 (.iload_n 2) 1 2 := ⟨by decide +kernel, rfl⟩
theorem dX3_moveUp_2 : Dc cX3_moveUp 2 (.imul) 1 3 := ⟨by decide +kernel, rfl⟩
theorem dX3_moveUp_3 : Dc cX3_moveUp 3 (.istore_n 3) 1 4 := ⟨by decide +kernel, rfl⟩
theorem dX3_moveUp_4 : Dc cX3_moveUp 4 (.iload_n 3) 1 5 := ⟨by decide +kernel, rfl⟩
theorem dX3_moveUp_5 : Dc cX3_moveUp 5 (.iload_n 2) 1 6 := ⟨by decide +kernel, rfl⟩
theorem dX3_moveUp_6 : Dc cX3_moveUp 6 (.iadd) 1 7 := ⟨by decide +kernel, rfl⟩
theorem dX3_moveUp_7 : Dc cX3_moveUp 7 (.istore 4) 2 9 := ⟨by decide +kernel, rfl⟩
theorem dX3_moveUp_9 : Dc cX3_moveUp 9 (.iload_n 3) 1 10 := ⟨by decide +kernel, rfl⟩
theorem dX3_moveUp_10 : Db cX3_moveUp 10 (fun o => .ifCond .lt o) 13 39 := ⟨29, by decide +kernel, rfl, rfl⟩
theorem dX3_moveUp_13 : Dc cX3_moveUp 13 (.iload 4) 2 15 := ⟨by decide +kernel, rfl⟩
theorem dX3_moveUp_15 : Dc cX3_moveUp 15 (.iload_n 3) 1 16 := ⟨by decide +kernel, rfl⟩
theorem dX3_moveUp_16 : Db cX3_moveUp 16 (fun o => .if_icmp .lt o) 19 39 := ⟨23, by decide +kernel, rfl, rfl⟩
theorem dX3_moveUp_19 : Dc cX3_moveUp 19 (.iload 4) 2 21 := ⟨by decide +kernel, rfl⟩
theorem dX3_moveUp_21 : Dc cX3_moveUp 21 (.aload_n 0) 1 22 := ⟨by decide +kernel, rfl⟩
theorem dX3_moveUp_22 : Dc cX3_moveUp 22 (.arraylength) 1 23 := ⟨by decide +kernel, rfl⟩
theorem dX3_moveUp_23 : Db cX3_moveUp 23 (fun o => .if_icmp .ge o) 26 39 := ⟨16, by decide +kernel, rfl, rfl⟩
theorem dX3_moveUp_26 : Dc cX3_moveUp 26 (.aload_n 0) 1 27 := ⟨by decide +kernel, rfl⟩
theorem dX3_moveUp_27 : Dc cX3_moveUp 27 (.iload 4) 2 29 := ⟨by decide +kernel, rfl⟩
theorem dX3_moveUp_29 : Dc cX3_moveUp 29 (.aload_n 0) 1 30 := ⟨by decide +kernel, rfl⟩
theorem dX3_moveUp_30 : Dc cX3_moveUp 30 (.iload_n 3) 1 31 := ⟨by decide +kernel, rfl⟩
theorem dX3_moveUp_31 : Dc cX3_moveUp 31 (.aload_n 0) 1 32 := ⟨by decide +kernel, rfl⟩
theorem dX3_moveUp_32 : Dc cX3_moveUp 32 (.arraylength) 1 33 := ⟨by decide +kernel, rfl⟩
theorem dX3_moveUp_33 : Dc cX3_moveUp 33 (.iload 4) 2 35 := ⟨by decide +kernel, rfl⟩
theorem dX3_moveUp_35 : Dc cX3_moveUp 35 (.isub) 1 36 := ⟨by decide +kernel, rfl⟩
theorem dX3_moveUp_36 : Dc cX3_moveUp 36 (.invokestatic 80) 3 39 := ⟨by decide +kernel, rfl⟩
theorem dX3_moveUp_39 : Dc cX3_moveUp 39 (.return_) 1 40 := ⟨by decide +kernel, rfl⟩
theorem dX4_init_0 : Dc cX4_init 0 (.aload_n 0) 1 1 := ⟨by decide +kernel, rfl⟩
theorem dX4_init_1 : Dc cX4_init 1 (.invokespecial 3) 3 4 := ⟨by decide +kernel, rfl⟩
theorem dX4_init_4 : Dc cX4_init 4 (.aload_n 0) 1 5 := ⟨by decide +kernel, rfl⟩
theorem dX4_init_5 : Dc cX4_init 5 (.new 9) 3 8 := ⟨by decide +kernel, rfl⟩
theorem dX4_init_8 : Dc cX4_init 8 (.dup) 1 9 := ⟨by decide +kernel, rfl⟩
theorem dX4_init_9 : Dc cX4_init 9 (.invokespecial 11) 3 12 := ⟨by decide +kernel, rfl⟩
theorem dX4_init_12 : Dc cX4_init 12 (.putfield 12) 3 15 := ⟨by decide +kernel, rfl⟩
theorem dX4_init_15 : Dc cX4_init 15 (.aload_n 0) 1 16 := ⟨by decide +kernel, rfl⟩
theorem dX4_init_16 : Dc cX4_init 16 (.new 18) 3 19 := ⟨by decide +kernel, rfl⟩
theorem dX4_init_19 : Dc cX4_init 19 (.dup) 1 20 := ⟨by decide +kernel, rfl⟩
theorem dX4_init_20 : Dc cX4_init 20 (.bipush 6) 2 22 := ⟨by decide +kernel, rfl⟩
theorem dX4_init_22 : Dc cX4_init 22 (.bipush 12) 2 24 := ⟨by decide +kernel, rfl⟩
theorem dX4_init_24 : Dc cX4_init 24 (.invokespecial 20) 3 27 := ⟨by decide +kernel, rfl⟩
theorem dX4_init_27 : Dc cX4_init 27 (.putfield 23) 3 30 := ⟨by decide +kernel, rfl⟩
theorem dX4_init_30 : Dc cX4_init 30 (.aload_n 0) 1 31 := ⟨by decide +kernel, rfl⟩
theorem dX4_init_31 : Dc cX4_init 31 (.new 18) 3 34 := ⟨by decide +kernel, rfl⟩
theorem dX4_init_34 : Dc cX4_init 34 (.dup) 1 35 := ⟨by decide +kernel, rfl⟩
theorem dX4_init_35 : Dc cX4_init 35 (.bipush 6) 2 37 := ⟨by decide +kernel, rfl⟩
theorem dX4_init_37 : Dc cX4_init 37 (.bipush 12) 2 39 := ⟨by decide +kernel, rfl⟩
theorem dX4_init_39 : Dc cX4_init 39 (.invokespecial 20) 3 42 := ⟨by decide +kernel, rfl⟩
theorem dX4_init_42 : Dc cX4_init 42 (.putfield 27) 3 45 := ⟨by decide +kernel, rfl⟩
theorem dX4_init_45 : Dc cX4_init 45 (.aload_n 0) 1 46 := ⟨by decide +kernel, rfl⟩
theorem dX4_init_46 : Dc cX4_init 46 (.bipush (-5)) 2 48 := ⟨by decide +kernel, rfl⟩
theorem dX4_init_48 : Dc cX4_init 48 (.putfield 30) 3 51 := ⟨by decide +kernel, rfl⟩
theorem dX4_init_51 : Dc cX4_init 51 (.return_) 1 52 := ⟨by decide +kernel, rfl⟩
theorem dX4_openSize_0 : Dc cX4_openSize 0 (.aload_n 0) 1 1 := ⟨by decide +kernel, rfl⟩
theorem dX4_openSize_1 : Dc cX4_openSize 1 (.getfield 23) 3 4 := ⟨by decide +kernel, rfl⟩
theorem dX4_openSize_4 : Dc cX4_openSize 4 (.aload_n 0) 1 5 := ⟨by decide +kernel, rfl⟩
theorem dX4_openSize_5 : Dc cX4_openSize 5 (.getfield 23) 3 8 := ⟨by decide +kernel, rfl⟩
theorem dX4_openSize_8 : Dc cX4_openSize 8 (.getfield 34) 3 11 := ⟨by decide +kernel, rfl⟩
theorem dX4_openSize_11 : Dc cX4_openSize 11 (.invokevirtual 37) 3 14 := ⟨by decide +kernel, rfl⟩
theorem dX4_openSize_14 : Dc cX4_openSize 14 (.ireturn) 1 15 := ⟨by decide +kernel, rfl⟩
theorem dX4_obey_0 : Dc cX4_obey 0 (.aload_n 0) 1 1 := ⟨by decide +kernel, rfl⟩
theorem dX4_obey_1 : Dc cX4_obey 1 (.getfield 12) 3 4 := ⟨by decide +kernel, rfl⟩
theorem dX4_obey_4 : Dc cX4_obey 4 (.iload_n 1) 1 5 := ⟨by decide +kernel, rfl⟩
theorem dX4_obey_5 : Dc cX4_obey 5 (.iload_n 2) 1 6 := ⟨by decide +kernel, rfl⟩
theorem dX4_obey_6 : Dc cX4_obey 6 (.invokevirtual 41) 3 9 := ⟨by decide +kernel, rfl⟩
theorem dX4_obey_9 : Dc cX4_obey 9 (.istore_n 3) 1 10 := ⟨by decide +kernel, rfl⟩
theorem dX4_obey_10 : Dc cX4_obey 10 (.aload_n 0) 1 11 := ⟨by decide +kernel, rfl⟩
theorem dX4_obey_11 : Dc cX4_obey 11 (.dup) 1 12 := ⟨by decide +kernel, rfl⟩
theorem dX4_obey_12 : Dc cX4_obey 12 (.getfield 45) 3 15 := ⟨by decide +kernel, rfl⟩
theorem dX4_obey_15 : Dc cX4_obey 15 (.iconst 1) 1 16 := ⟨by decide +kernel, rfl⟩
theorem dX4_obey_16 : Dc cX4_obey 16 (.iadd) 1 17 := ⟨by decide +kernel, rfl⟩
theorem dX4_obey_17 : Dc cX4_obey 17 (.putfield 45) 3 20 := ⟨by decide +kernel, rfl⟩
theorem dX4_obey_20 : Dc cX4_obey 20 (.iload_n 3) 1 21 := ⟨by decide +kernel, rfl⟩
theorem dX4_obey_21 : Db cX4_obey 21 (fun o => .ifCond .ne o) 24 34 := ⟨13, by decide +kernel, rfl, rfl⟩
theorem dX4_obey_24 : Dc cX4_obey 24 (.aload_n 0) 1 25 := ⟨by decide +kernel, rfl⟩
theorem dX4_obey_25 : Dc cX4_obey 25 (.dup) 1 26 := ⟨by decide +kernel, rfl⟩
theorem dX4_obey_26 : Dc cX4_obey 26 (.getfield 48) 3 29 := ⟨by decide +kernel, rfl⟩
theorem dX4_obey_29 : Dc cX4_obey 29 (.iconst 1) 1 30 := ⟨by decide +kernel, rfl⟩
theorem dX4_obey_30 : Dc cX4_obey 30 (.iadd) 1 31 := ⟨by decide +kernel, rfl⟩
theorem dX4_obey_31 : Dc cX4_obey 31 (.putfield 48) 3 34 := ⟨by decide +kernel, rfl⟩
theorem dX4_obey_34 : Dc cX4_obey 34 (.iload_n 3) 1 35 := ⟨by decide +kernel, rfl⟩
theorem dX4_obey_35 : Dc cX4_obey 35 (.ireturn) 1 36 := ⟨by decide +kernel, rfl⟩
theorem dX4_playLoop_0 : Dc cX4_playLoop 0 (.aload_n 1) 1 1 := ⟨by decide +kernel, rfl⟩
theorem dX4_playLoop_1 : Dc cX4_playLoop 1 (.aload_n 0) 1 2 := ⟨by decide +kernel, rfl⟩
theorem dX4_playLoop_2 : Dc cX4_playLoop 2 (.getfield 12) 3 5 := ⟨by decide +kernel, rfl⟩
theorem dX4_playLoop_5 : Dc cX4_playLoop 5 (.aload_n 2) 1 6 := ⟨by decide +kernel, rfl⟩
theorem dX4_playLoop_6 : Dc cX4_playLoop 6 (.iload_n 3) 1 7 := ⟨by decide +kernel, rfl⟩
theorem dX4_playLoop_7 : Dc cX4_playLoop 7 (.aload_n 2) 1 8 := ⟨by decide +kernel, rfl⟩
theorem dX4_playLoop_8 : Dc cX4_playLoop 8 (.iload_n 3) 1 9 := ⟨by decide +kernel, rfl⟩
theorem dX4_playLoop_9 : Dc cX4_playLoop 9 (.invokevirtual 51) 3 12 := ⟨by decide +kernel, rfl⟩
theorem dX4_playLoop_12 : Dc cX4_playLoop 12 (.invokevirtual 54) 3 15 := ⟨by decide +kernel, rfl⟩
theorem dX4_playLoop_15 : Dc cX4_playLoop 15 (.aload_n 0) 1 16 := ⟨by decide +kernel, rfl⟩
theorem dX4_playLoop_16 : Dc cX4_playLoop 16 (.dup) 1 17 := ⟨by decide +kernel, rfl⟩
theorem dX4_playLoop_17 : Dc cX4_playLoop 17 (.getfield 45) 3 20 := ⟨by decide +kernel, rfl⟩
theorem dX4_playLoop_20 : Dc cX4_playLoop 20 (.aload_n 1) 1 21 := ⟨by decide +kernel, rfl⟩
theorem dX4_playLoop_21 : Dc cX4_playLoop 21 (.getfield 60) 3 24 := ⟨by decide +kernel, rfl⟩
theorem dX4_playLoop_24 : Dc cX4_playLoop 24 (.iadd) 1 25 := ⟨by decide +kernel, rfl⟩
theorem dX4_playLoop_25 : Dc cX4_playLoop 25 (.putfield 45) 3 28 := ⟨by decide +kernel, rfl⟩
theorem dX4_playLoop_28 : Dc cX4_playLoop 28 (.aload_n 1) 1 29 := ⟨by decide +kernel, rfl⟩
theorem dX4_playLoop_29 : Dc cX4_playLoop 29 (.getfield 63) 3 32 := ⟨by decide +kernel, rfl⟩
theorem dX4_playLoop_32 : Dc cX4_playLoop 32 (.iconst 2) 1 33 := ⟨by decide +kernel, rfl⟩
theorem dX4_playLoop_33 : Db cX4_playLoop 33 (fun o => .if_icmp .ne o) 36 46 := ⟨13, by decide +kernel, rfl, rfl⟩
theorem dX4_playLoop_36 : Dc cX4_playLoop 36 (.aload_n 0) 1 37 := ⟨by decide +kernel, rfl⟩
theorem dX4_playLoop_37 : Dc cX4_playLoop 37 (.dup) 1 38 := ⟨by decide +kernel, rfl⟩
theorem dX4_playLoop_38 : Dc cX4_playLoop 38 (.getfield 48) 3 41 := ⟨by decide +kernel, rfl⟩
theorem dX4_playLoop_41 : Dc cX4_playLoop 41 (.iconst 1) 1 42 := ⟨by decide +kernel, rfl⟩
theorem dX4_playLoop_42 : Dc cX4_playLoop 42 (.iadd) 1 43 := ⟨by decide +kernel, rfl⟩
theorem dX4_playLoop_43 : Dc cX4_playLoop 43 (.putfield 48) 3 46 := ⟨by decide +kernel, rfl⟩
theorem dX4_playLoop_46 : Dc cX4_playLoop 46 (.aload_n 0) 1 47 := ⟨by decide +kernel, rfl⟩
theorem dX4_playLoop_47 : Dc cX4_playLoop 47 (.dup) 1 48 := ⟨by decide +kernel, rfl⟩
theorem dX4_playLoop_48 : Dc cX4_playLoop 48 (.getfield 66) 3 51 := ⟨by decide +kernel, rfl⟩
theorem dX4_playLoop_51 : Dc cX4_playLoop 51 (.iconst 1) 1 52 := ⟨by decide +kernel, rfl⟩
theorem dX4_playLoop_52 : Dc cX4_playLoop 52 (.iadd) 1 53 := ⟨by decide +kernel, rfl⟩
theorem dX4_playLoop_53 : Dc cX4_playLoop 53 (.putfield 66) 3 56 := ⟨by decide +kernel, rfl⟩
theorem dX4_playLoop_56 : Dc cX4_playLoop 56 (.aload_n 0) 1 57 := ⟨by decide +kernel, rfl⟩
theorem dX4_playLoop_57 : Dc cX4_playLoop 57 (.aload_n 1) 1 58 := ⟨by decide +kernel, rfl⟩
theorem dX4_playLoop_58 : Dc cX4_playLoop 58 (.getfield 63) 3 61 := ⟨by decide +kernel, rfl⟩
theorem dX4_playLoop_61 : Dc cX4_playLoop 61 (.putfield 30) 3 64 := ⟨by decide +kernel, rfl⟩
theorem dX4_playLoop_64 : Dc cX4_playLoop 64 (.aload_n 1) 1 65 := ⟨by decide +kernel, rfl⟩
theorem dX4_playLoop_65 : Dc cX4_playLoop 65 (.getfield 60) 3 68 := ⟨by decide +kernel, rfl⟩
theorem dX4_playLoop_68 : Dc cX4_playLoop 68 (.ireturn) 1 69 := ⟨by decide +kernel, rfl⟩
theorem dX4_copyFrom_0 : Dc cX4_copyFrom 0 (.aload_n 0) 1 1 := ⟨by decide +kernel, rfl⟩
theorem dX4_copyFrom_1 : Dc cX4_copyFrom 1 (.getfield 12) 3 4 := ⟨by decide +kernel, rfl⟩
theorem dX4_copyFrom_4 : Dc cX4_copyFrom 4 (.aload_n 1) 1 5 := ⟨by decide +kernel, rfl⟩
theorem dX4_copyFrom_5 : Dc cX4_copyFrom 5 (.getfield 12) 3 8 := ⟨by decide +kernel, rfl⟩
theorem dX4_copyFrom_8 : Dc cX4_copyFrom 8 (.invokevirtual 69) 3 11 := ⟨by decide +kernel, rfl⟩
theorem dX4_copyFrom_11 : Dc cX4_copyFrom 11 (.aload_n 0) 1 12 := ⟨by decide +kernel, rfl⟩
theorem dX4_copyFrom_12 : Dc cX4_copyFrom 12 (.getfield 23) 3 15 := ⟨by decide +kernel, rfl⟩
theorem dX4_copyFrom_15 : Dc cX4_copyFrom 15 (.aload_n 1) 1 16 := ⟨by decide +kernel, rfl⟩
theorem dX4_copyFrom_16 : Dc cX4_copyFrom 16 (.getfield 23) 3 19 := ⟨by decide +kernel, rfl⟩
theorem dX4_copyFrom_19 : Dc cX4_copyFrom 19 (.invokevirtual 73) 3 22 := ⟨by decide +kernel, rfl⟩
theorem dX4_copyFrom_22 : Dc cX4_copyFrom 22 (.aload_n 0) 1 23 := ⟨by decide +kernel, rfl⟩
theorem dX4_copyFrom_23 : Dc cX4_copyFrom 23 (.getfield 27) 3 26 := ⟨by decide +kernel, rfl⟩
theorem dX4_copyFrom_26 : Dc cX4_copyFrom 26 (.aload_n 1) 1 27 := ⟨by decide +kernel, rfl⟩
theorem dX4_copyFrom_27 : Dc cX4_copyFrom 27 (.getfield 27) 3 30 := ⟨by decide +kernel, rfl⟩
theorem dX4_copyFrom_30 : Dc cX4_copyFrom 30 (.invokevirtual 73) 3 33 := ⟨by decide +kernel, rfl⟩
theorem dX4_copyFrom_33 : Dc cX4_copyFrom 33 (.aload_n 0) 1 34 := ⟨by decide +kernel, rfl⟩
theorem dX4_copyFrom_34 : Dc cX4_copyFrom 34 (.aload_n 1) 1 35 := ⟨by decide +kernel, rfl⟩
theorem dX4_copyFrom_35 : Dc cX4_copyFrom 35 (.getfield 76) 3 38 := ⟨by decide +kernel, rfl⟩
theorem dX4_copyFrom_38 : Dc cX4_copyFrom 38 (.putfield 76) 3 41 := ⟨by decide +kernel, rfl⟩
theorem dX4_copyFrom_41 : Dc cX4_copyFrom 41 (.aload_n 0) 1 42 := ⟨by decide +kernel, rfl⟩
theorem dX4_copyFrom_42 : Dc cX4_copyFrom 42 (.aload_n 1) 1 43 := ⟨by decide +kernel, rfl⟩
theorem dX4_copyFrom_43 : Dc cX4_copyFrom 43 (.getfield 45) 3 46 := ⟨by decide +kernel, rfl⟩
theorem dX4_copyFrom_46 : Dc cX4_copyFrom 46 (.putfield 45) 3 49 := ⟨by decide +kernel, rfl⟩
theorem dX4_copyFrom_49 : Dc cX4_copyFrom 49 (.aload_n 0) 1 50 := ⟨by decide +kernel, rfl⟩
theorem dX4_copyFrom_50 : Dc cX4_copyFrom 50 (.aload_n 1) 1 51 := ⟨by decide +kernel, rfl⟩
theorem dX4_copyFrom_51 : Dc cX4_copyFrom 51 (.getfield 48) 3 54 := ⟨by decide +kernel, rfl⟩
theorem dX4_copyFrom_54 : Dc cX4_copyFrom 54 (.putfield 48) 3 57 := ⟨by decide +kernel, rfl⟩
theorem dX4_copyFrom_57 : Dc cX4_copyFrom 57 (.aload_n 0) 1 58 := ⟨by decide +kernel, rfl⟩
theorem dX4_copyFrom_58 : Dc cX4_copyFrom 58 (.aload_n 1) 1 59 := ⟨by decide +kernel, rfl⟩
theorem dX4_copyFrom_59 : Dc cX4_copyFrom 59 (.getfield 66) 3 62 := ⟨by decide +kernel, rfl⟩
theorem dX4_copyFrom_62 : Dc cX4_copyFrom 62 (.putfield 66) 3 65 := ⟨by decide +kernel, rfl⟩
theorem dX4_copyFrom_65 : Dc cX4_copyFrom 65 (.aload_n 0) 1 66 := ⟨by decide +kernel, rfl⟩
theorem dX4_copyFrom_66 : Dc cX4_copyFrom 66 (.aload_n 1) 1 67 := ⟨by decide +kernel, rfl⟩
theorem dX4_copyFrom_67 : Dc cX4_copyFrom 67 (.getfield 30) 3 70 := ⟨by decide +kernel, rfl⟩
theorem dX4_copyFrom_70 : Dc cX4_copyFrom 70 (.putfield 30) 3 73 := ⟨by decide +kernel, rfl⟩
theorem dX4_copyFrom_73 : Dc cX4_copyFrom 73 (.return_) 1 74 := ⟨by decide +kernel, rfl⟩
theorem dX5_init_0 : Dc cX5_init 0 (.aload_n 0) 1 1 := ⟨by decide +kernel, rfl⟩
theorem dX5_init_1 : Dc cX5_init 1 (.invokespecial 3) 3 4 := ⟨by decide +kernel, rfl⟩
theorem dX5_init_4 : Dc cX5_init 4 (.aload_n 0) 1 5 := ⟨by decide +kernel, rfl⟩
theorem dX5_init_5 : Dc cX5_init 5 (.bipush 60) 2 7 := ⟨by decide +kernel, rfl⟩
theorem dX5_init_7 : Dc cX5_init 7 (.newarray .char) 2 9 := ⟨by decide +kernel, rfl⟩
theorem dX5_init_9 : Dc cX5_init 9 (.putfield 9) 3 12 := ⟨by decide +kernel, rfl⟩
theorem dX5_init_12 : Dc cX5_init 12 (.aload_n 0) 1 13 := ⟨by decide +kernel, rfl⟩
theorem dX5_init_13 : Dc cX5_init 13 (.new 15) 3 16 := ⟨by decide +kernel, rfl⟩
theorem dX5_init_16 : Dc cX5_init 16 (.dup) 1 17 := ⟨by decide +kernel, rfl⟩
theorem dX5_init_17 : Dc cX5_init 17 (.bipush 20) 2 19 := ⟨by decide +kernel, rfl⟩
theorem dX5_init_19 : Dc cX5_init 19 (.bipush 20) 2 21 := ⟨by decide +kernel, rfl⟩
theorem dX5_init_21 : Dc cX5_init 21 (.invokespecial 17) 3 24 := ⟨by decide +kernel, rfl⟩
theorem dX5_init_24 : Dc cX5_init 24 (.putfield 20) 3 27 := ⟨by decide +kernel, rfl⟩
theorem dX5_init_27 : Dc cX5_init 27 (.return_) 1 28 := ⟨by decide +kernel, rfl⟩
theorem dX5_append_0 : Dc cX5_append 0 (.aload_n 0) 1 1 := ⟨by decide +kernel, rfl⟩
theorem dX5_append_1 : Dc cX5_append 1 (.getfield 24) 3 4 := ⟨by decide +kernel, rfl⟩
theorem dX5_append_4 : Db cX5_append 4 (fun o => .ifCond .lt o) 7 19 := ⟨15, by decide +kernel, rfl, rfl⟩
theorem dX5_append_7 : Dc cX5_append 7 (.aload_n 0) 1 8 := ⟨by decide +kernel, rfl⟩
theorem dX5_append_8 : Dc cX5_append 8 (.getfield 24) 3 11 := ⟨by decide +kernel, rfl⟩
theorem dX5_append_11 : Dc cX5_append 11 (.aload_n 0) 1 12 := ⟨by decide +kernel, rfl⟩
theorem dX5_append_12 : Dc cX5_append 12 (.getfield 9) 3 15 := ⟨by decide +kernel, rfl⟩
theorem dX5_append_15 : Dc cX5_append 15 (.arraylength) 1 16 := ⟨by decide +kernel, rfl⟩
theorem dX5_append_16 : Db cX5_append 16 (fun o => .if_icmp .lt o) 19 21 := ⟨5, by decide +kernel, rfl, rfl⟩
theorem dX5_append_19 : Dc cX5_append 19 (.iconst 0) 1 20 := ⟨by decide +kernel, rfl⟩
theorem dX5_append_20 : Dc cX5_append 20 (.ireturn) 1 21 := ⟨by decide +kernel, rfl⟩
theorem dX5_append_21 : Dc cX5_append 21 (.aload_n 0) 1 22 := ⟨by decide +kernel, rfl⟩
theorem dX5_append_22 : Dc cX5_append 22 (.getfield 9) 3 25 := ⟨by decide +kernel, rfl⟩
theorem dX5_append_25 : Dc cX5_append 25 (.aload_n 0) 1 26 := ⟨by decide +kernel, rfl⟩
theorem dX5_append_26 : Dc cX5_append 26 (.getfield 24) 3 29 := ⟨by decide +kernel, rfl⟩
theorem dX5_append_29 : Dc cX5_append 29 (.iload_n 1) 1 30 := ⟨by decide +kernel, rfl⟩
theorem dX5_append_30 : Dc cX5_append 30 (.castore) 1 31 := ⟨by decide +kernel, rfl⟩
theorem dX5_append_31 : Dc cX5_append 31 (.aload_n 0) 1 32 := ⟨by decide +kernel, rfl⟩
theorem dX5_append_32 : Dc cX5_append 32 (.dup) 1 33 := ⟨by decide +kernel, rfl⟩
theorem dX5_append_33 : Dc cX5_append 33 (.getfield 24) 3 36 := ⟨by decide +kernel, rfl⟩
theorem dX5_append_36 : Dc cX5_append 36 (.iconst 1) 1 37 := ⟨by decide +kernel, rfl⟩
theorem dX5_append_37 : Dc cX5_append 37 (.iadd) 1 38 := ⟨by decide +kernel, rfl⟩
theorem dX5_append_38 : Dc cX5_append 38 (.putfield 24) 3 41 := ⟨by decide +kernel, rfl⟩
theorem dX5_append_41 : Dc cX5_append 41 (.iconst 1) 1 42 := ⟨by decide +kernel, rfl⟩
theorem dX5_append_42 : Dc cX5_append 42 (.ireturn) 1 43 := ⟨by decide +kernel, rfl⟩
theorem dX5_read_0 : Dc cX5_read 0 (.aload_n 0) 1 1 := ⟨by decide +kernel, rfl⟩
theorem dX5_read_1 : Dc cX5_read 1 (.iconst 0) 1 2 := ⟨by decide +kernel, rfl⟩
theorem dX5_read_2 : Dc cX5_read 2 (.putfield 28) 3 5 := ⟨by decide +kernel, rfl⟩
theorem dX5_read_5 : Dc cX5_read 5 (.aload_n 0) 1 6 := ⟨by decide +kernel, rfl⟩
theorem dX5_read_6 : Dc cX5_read 6 (.getfield 20) 3 9 := ⟨by decide +kernel, rfl⟩
theorem dX5_read_9 : Dc cX5_read 9 (.invokevirtual 31) 3 12 := ⟨by decide +kernel, rfl⟩
theorem dX5_read_12 : Dc cX5_read 12 (.iconst 0) 1 13 := ⟨by decide +kernel, rfl⟩
theorem dX5_read_13 : Dc cX5_read 13 (.istore_n 1) 1 14 := ⟨by decide +kernel, rfl⟩
theorem dX5_read_14 : Dc cX5_read 14 (.iload_n 1) 1 15 := ⟨by decide +kernel, rfl⟩
theorem dX5_read_15 : Dc cX5_read 15 (.bipush 60) 2 17 := ⟨by decide +kernel, rfl⟩
theorem dX5_read_17 : Db cX5_read 17 (fun o => .if_icmp .ge o) 20 61 := ⟨44, by decide +kernel, rfl, rfl⟩
theorem dX5_read_20 : Dc cX5_read 20 (.aload_n 0) 1 21 := ⟨by decide +kernel, rfl⟩
theorem dX5_read_21 : Dc cX5_read 21 (.invokevirtual 34) 3 24 := ⟨by decide +kernel, rfl⟩
theorem dX5_read_24 : Db cX5_read 24 (fun o => .ifCond .ne o) 27 29 := ⟨5, by decide +kernel, rfl, rfl⟩
theorem dX5_read_27 : Dc cX5_read 27 (.iconst 0) 1 28 := ⟨by decide +kernel, rfl⟩
theorem dX5_read_28 : Dc cX5_read 28 (.ireturn) 1 29 := ⟨by decide +kernel, rfl⟩
theorem dX5_read_29 : Dc cX5_read 29 (.aload_n 0) 1 30 := ⟨by decide +kernel, rfl⟩
theorem dX5_read_30 : Dc cX5_read 30 (.bipush 59) 2 32 := ⟨by decide +kernel, rfl⟩
theorem dX5_read_32 : Dc cX5_read 32 (.invokevirtual 38) 3 35 := ⟨by decide +kernel, rfl⟩
theorem dX5_read_35 : Db cX5_read 35 (fun o => .ifCond .ne o) 38 55 := ⟨20, by decide +kernel, rfl, rfl⟩
theorem dX5_read_38 : Dc cX5_read 38 (.aload_n 0) 1 39 := ⟨by decide +kernel, rfl⟩
theorem dX5_read_39 : Dc cX5_read 39 (.getfield 28) 3 42 := ⟨by decide +kernel, rfl⟩
theorem dX5_read_42 : Dc cX5_read 42 (.aload_n 0) 1 43 := ⟨by decide +kernel, rfl⟩
theorem dX5_read_43 : Dc cX5_read 43 (.getfield 24) 3 46 := ⟨by decide +kernel, rfl⟩
theorem dX5_read_46 : Db cX5_read 46 (fun o => .if_icmp .ne o) 49 53 := ⟨7, by decide +kernel, rfl, rfl⟩
theorem dX5_read_49 : Dc cX5_read 49 (.iconst 1) 1 50 := ⟨by decide +kernel, rfl⟩
theorem dX5_read_50 : Db cX5_read 50 .goto 53 54 := ⟨4, by decide +kernel, rfl, rfl⟩
theorem dX5_read_53 : Dc cX5_read 53 (.iconst 0) 1 54 := ⟨by decide +kernel, rfl⟩
theorem dX5_read_54 : Dc cX5_read 54 (.ireturn) 1 55 := ⟨by decide +kernel, rfl⟩
theorem dX5_read_55 : Dc cX5_read 55 (.iinc 1 1) 3 58 := ⟨by decide +kernel, rfl⟩
theorem dX5_read_58 : Db cX5_read 58 .goto 61 14 := ⟨-44, by decide +kernel, rfl, rfl⟩
theorem dX5_read_61 : Dc cX5_read 61 (.iconst 0) 1 62 := ⟨by decide +kernel, rfl⟩
theorem dX5_read_62 : Dc cX5_read 62 (.ireturn) 1 63 := ⟨by decide +kernel, rfl⟩
theorem dX5_readItem_0 : Dc cX5_readItem 0 (.aload_n 0) 1 1 := ⟨by decide +kernel, rfl⟩
theorem dX5_readItem_1 : Dc cX5_readItem 1 (.getfield 20) 3 4 := ⟨by decide +kernel, rfl⟩
theorem dX5_readItem_4 : Dc cX5_readItem 4 (.invokevirtual 42) 3 7 := ⟨by decide +kernel, rfl⟩
theorem dX5_readItem_7 : Dc cX5_readItem 7 (.iconst 0) 1 8 := ⟨by decide +kernel, rfl⟩
theorem dX5_readItem_8 : Dc cX5_readItem 8 (.istore_n 1) 1 9 := ⟨by decide +kernel, rfl⟩
theorem dX5_readItem_9 : Dc cX5_readItem 9 (.aload_n 0) 1 10 := ⟨by decide +kernel, rfl⟩
theorem dX5_readItem_10 : Dc cX5_readItem 10 (.invokevirtual 45) 3 13 := ⟨by decide +kernel, rfl⟩
theorem dX5_readItem_13 : Dc cX5_readItem 13 (.invokestatic 49) 3 16 := ⟨by decide +kernel, rfl⟩
theorem dX5_readItem_16 : Db cX5_readItem 16 (fun o => .ifCond .ge o) 19 29 := ⟨13, by decide +kernel, rfl, rfl⟩
theorem dX5_readItem_19 : Dc cX5_readItem 19 (.aload_n 0) 1 20 := ⟨by decide +kernel, rfl⟩
theorem dX5_readItem_20 : Dc cX5_readItem 20 (.iconst 0) 1 21 := ⟨by decide +kernel, rfl⟩
theorem dX5_readItem_21 : Dc cX5_readItem 21 (.invokevirtual 53) 3 24 := ⟨by decide +kernel, rfl⟩
theorem dX5_readItem_24 : Db cX5_readItem 24 (fun o => .ifCond .ne o) 27 50 := ⟨26, by decide +kernel, rfl, rfl⟩
theorem dX5_readItem_27 : Dc cX5_readItem 27 (.iconst 0) 1 28 := ⟨by decide +kernel, rfl⟩
theorem dX5_readItem_28 : Dc cX5_readItem 28 (.ireturn) 1 29 := ⟨by decide +kernel, rfl⟩
theorem dX5_readItem_29 : Dc cX5_readItem 29 (.aload_n 0) 1 30 := ⟨by decide +kernel, rfl⟩
theorem dX5_readItem_30 : Dc cX5_readItem 30 (.iconst 2) 1 31 := ⟨by decide +kernel, rfl⟩
theorem dX5_readItem_31 : Dc cX5_readItem 31 (.bipush 99) 2 33 := ⟨by decide +kernel, rfl⟩
theorem dX5_readItem_33 : Dc cX5_readItem 33 (.invokevirtual 57) 3 36 := ⟨by decide +kernel, rfl⟩
theorem dX5_readItem_36 : Dc cX5_readItem 36 (.istore_n 1) 1 37 := ⟨by decide +kernel, rfl⟩
theorem dX5_readItem_37 : Dc cX5_readItem 37 (.iload_n 1) 1 38 := ⟨by decide +kernel, rfl⟩
theorem dX5_readItem_38 : Db cX5_readItem 38 (fun o => .ifCond .lt o) 41 48 := ⟨10, by decide +kernel, rfl, rfl⟩
theorem dX5_readItem_41 : Dc cX5_readItem 41 (.aload_n 0) 1 42 := ⟨by decide +kernel, rfl⟩
theorem dX5_readItem_42 : Dc cX5_readItem 42 (.invokevirtual 61) 3 45 := ⟨by decide +kernel, rfl⟩
theorem dX5_readItem_45 : Db cX5_readItem 45 (fun o => .ifCond .ne o) 48 50 := ⟨5, by decide +kernel, rfl, rfl⟩
theorem dX5_readItem_48 : Dc cX5_readItem 48 (.iconst 0) 1 49 := ⟨by decide +kernel, rfl⟩
theorem dX5_readItem_49 : Dc cX5_readItem 49 (.ireturn) 1 50 := ⟨by decide +kernel, rfl⟩
theorem dX5_readItem_50 : Dc cX5_readItem 50 (.aload_n 0) 1 51 := ⟨by decide +kernel, rfl⟩
theorem dX5_readItem_51 : Dc cX5_readItem 51 (.getfield 20) 3 54 := ⟨by decide +kernel, rfl⟩
theorem dX5_readItem_54 : Dc cX5_readItem 54 (.iload_n 1) 1 55 := ⟨by decide +kernel, rfl⟩
theorem dX5_readItem_55 : Dc cX5_readItem 55 (.invokevirtual 64) 3 58 := ⟨by decide +kernel, rfl⟩
theorem dX5_readItem_58 : Dc cX5_readItem 58 (.pop) 1 59 := ⟨by decide +kernel, rfl⟩
theorem dX5_readItem_59 : Dc cX5_readItem 59 (.iconst 1) 1 60 := ⟨by decide +kernel, rfl⟩
theorem dX5_readItem_60 : Dc cX5_readItem 60 (.ireturn) 1 61 := ⟨by decide +kernel, rfl⟩
theorem dX5_readBody_0 : Dc cX5_readBody 0 (.aload_n 0) 1 1 := ⟨by decide +kernel, rfl⟩
theorem dX5_readBody_1 : Dc cX5_readBody 1 (.bipush 40) 2 3 := ⟨by decide +kernel, rfl⟩
theorem dX5_readBody_3 : Dc cX5_readBody 3 (.invokevirtual 38) 3 6 := ⟨by decide +kernel, rfl⟩
theorem dX5_readBody_6 : Db cX5_readBody 6 (fun o => .ifCond .ne o) 9 11 := ⟨5, by decide +kernel, rfl, rfl⟩
theorem dX5_readBody_9 : Dc cX5_readBody 9 (.iconst 0) 1 10 := ⟨by decide +kernel, rfl⟩
theorem dX5_readBody_10 : Dc cX5_readBody 10 (.ireturn) 1 11 := ⟨by decide +kernel, rfl⟩
theorem dX5_readBody_11 : Dc cX5_readBody 11 (.iconst 0) 1 12 := ⟨by decide +kernel, rfl⟩
theorem dX5_readBody_12 : Dc cX5_readBody 12 (.istore_n 1) 1 13 := ⟨by decide +kernel, rfl⟩
theorem dX5_readBody_13 : Dc cX5_readBody 13 (.iload_n 1) 1 14 := ⟨by decide +kernel, rfl⟩
theorem dX5_readBody_14 : Dc cX5_readBody 14 (.bipush 60) 2 16 := ⟨by decide +kernel, rfl⟩
theorem dX5_readBody_16 : Db cX5_readBody 16 (fun o => .if_icmp .ge o) 19 51 := ⟨35, by decide +kernel, rfl, rfl⟩
theorem dX5_readBody_19 : Dc cX5_readBody 19 (.aload_n 0) 1 20 := ⟨by decide +kernel, rfl⟩
theorem dX5_readBody_20 : Dc cX5_readBody 20 (.iconst 1) 1 21 := ⟨by decide +kernel, rfl⟩
theorem dX5_readBody_21 : Dc cX5_readBody 21 (.invokevirtual 53) 3 24 := ⟨by decide +kernel, rfl⟩
theorem dX5_readBody_24 : Db cX5_readBody 24 (fun o => .ifCond .ne o) 27 29 := ⟨5, by decide +kernel, rfl, rfl⟩
theorem dX5_readBody_27 : Dc cX5_readBody 27 (.iconst 0) 1 28 := ⟨by decide +kernel, rfl⟩
theorem dX5_readBody_28 : Dc cX5_readBody 28 (.ireturn) 1 29 := ⟨by decide +kernel, rfl⟩
theorem dX5_readBody_29 : Dc cX5_readBody 29 (.aload_n 0) 1 30 := ⟨by decide +kernel, rfl⟩
theorem dX5_readBody_30 : Dc cX5_readBody 30 (.bipush 44) 2 32 := ⟨by decide +kernel, rfl⟩
theorem dX5_readBody_32 : Dc cX5_readBody 32 (.invokevirtual 38) 3 35 := ⟨by decide +kernel, rfl⟩
theorem dX5_readBody_35 : Db cX5_readBody 35 (fun o => .ifCond .ne o) 38 45 := ⟨10, by decide +kernel, rfl, rfl⟩
theorem dX5_readBody_38 : Dc cX5_readBody 38 (.aload_n 0) 1 39 := ⟨by decide +kernel, rfl⟩
theorem dX5_readBody_39 : Dc cX5_readBody 39 (.bipush 41) 2 41 := ⟨by decide +kernel, rfl⟩
theorem dX5_readBody_41 : Dc cX5_readBody 41 (.invokevirtual 38) 3 44 := ⟨by decide +kernel, rfl⟩
theorem dX5_readBody_44 : Dc cX5_readBody 44 (.ireturn) 1 45 := ⟨by decide +kernel, rfl⟩
theorem dX5_readBody_45 : Dc cX5_readBody 45 (.iinc 1 1) 3 48 := ⟨by decide +kernel, rfl⟩
theorem dX5_readBody_48 : Db cX5_readBody 48 .goto 51 13 := ⟨-35, by decide +kernel, rfl, rfl⟩
theorem dX5_readBody_51 : Dc cX5_readBody 51 (.iconst 0) 1 52 := ⟨by decide +kernel, rfl⟩
theorem dX5_readBody_52 : Dc cX5_readBody 52 (.ireturn) 1 53 := ⟨by decide +kernel, rfl⟩
theorem dX5_readStep_0 : Dc cX5_readStep 0 (.ldc 68) 2 2 := ⟨by decide +kernel, rfl⟩
theorem dX5_readStep_2 : Dc cX5_readStep 2 (.aload_n 0) 1 3 := ⟨by decide +kernel, rfl⟩
theorem dX5_readStep_3 : Dc cX5_readStep 3 (.invokevirtual 45) 3 6 := ⟨by decide +kernel, rfl⟩
theorem dX5_readStep_6 : Dc cX5_readStep 6 (.invokevirtual 70) 3 9 := ⟨by decide +kernel, rfl⟩
theorem dX5_readStep_9 : Dc cX5_readStep 9 (.istore_n 2) 1 10 := ⟨by decide +kernel, rfl⟩
theorem dX5_readStep_10 : Dc cX5_readStep 10 (.iload_n 2) 1 11 := ⟨by decide +kernel, rfl⟩
theorem dX5_readStep_11 : Db cX5_readStep 11 (fun o => .ifCond .ge o) 14 16 := ⟨5, by decide +kernel, rfl, rfl⟩
theorem dX5_readStep_14 : Dc cX5_readStep 14 (.iconst 0) 1 15 := ⟨by decide +kernel, rfl⟩
theorem dX5_readStep_15 : Dc cX5_readStep 15 (.ireturn) 1 16 := ⟨by decide +kernel, rfl⟩
theorem dX5_readStep_16 : Dc cX5_readStep 16 (.aload_n 0) 1 17 := ⟨by decide +kernel, rfl⟩
theorem dX5_readStep_17 : Dc cX5_readStep 17 (.dup) 1 18 := ⟨by decide +kernel, rfl⟩
theorem dX5_readStep_18 : Dc cX5_readStep 18 (.getfield 28) 3 21 := ⟨by decide +kernel, rfl⟩
theorem dX5_readStep_21 : Dc cX5_readStep 21 (.iconst 1) 1 22 := ⟨by decide +kernel, rfl⟩
theorem dX5_readStep_22 : Dc cX5_readStep 22 (.iadd) 1 23 := ⟨by decide +kernel, rfl⟩
theorem dX5_readStep_23 : Dc cX5_readStep 23 (.putfield 28) 3 26 := ⟨by decide +kernel, rfl⟩
theorem dX5_readStep_26 : Dc cX5_readStep 26 (.aload_n 0) 1 27 := ⟨by decide +kernel, rfl⟩
theorem dX5_readStep_27 : Dc cX5_readStep 27 (.iconst 0) 1 28 := ⟨by decide +kernel, rfl⟩
theorem dX5_readStep_28 : Dc cX5_readStep 28 (.iload_n 2) 1 29 := ⟨by decide +kernel, rfl⟩
theorem dX5_readStep_29 : Dc cX5_readStep 29 (.invokestatic 75) 3 32 := ⟨by decide +kernel, rfl⟩
theorem dX5_readStep_32 : Dc cX5_readStep 32 (.invokevirtual 57) 3 35 := ⟨by decide +kernel, rfl⟩
theorem dX5_readStep_35 : Dc cX5_readStep 35 (.istore_n 3) 1 36 := ⟨by decide +kernel, rfl⟩
theorem dX5_readStep_36 : Dc cX5_readStep 36 (.iload_n 3) 1 37 := ⟨by decide +kernel, rfl⟩
theorem dX5_readStep_37 : Db cX5_readStep 37 (fun o => .ifCond .ge o) 40 42 := ⟨5, by decide +kernel, rfl, rfl⟩
theorem dX5_readStep_40 : Dc cX5_readStep 40 (.iconst 0) 1 41 := ⟨by decide +kernel, rfl⟩
theorem dX5_readStep_41 : Dc cX5_readStep 41 (.ireturn) 1 42 := ⟨by decide +kernel, rfl⟩
theorem dX5_readStep_42 : Dc cX5_readStep 42 (.iconst 0) 1 43 := ⟨by decide +kernel, rfl⟩
theorem dX5_readStep_43 : Dc cX5_readStep 43 (.istore 4) 2 45 := ⟨by decide +kernel, rfl⟩
theorem dX5_readStep_45 : Dc cX5_readStep 45 (.iload_n 1) 1 46 := ⟨by decide +kernel, rfl⟩
theorem dX5_readStep_46 : Db cX5_readStep 46 (fun o => .ifCond .eq o) 49 116 := ⟨70, by decide +kernel, rfl, rfl⟩
theorem dX5_readStep_49 : Dc cX5_readStep 49 (.aload_n 0) 1 50 := ⟨by decide +kernel, rfl⟩
theorem dX5_readStep_50 : Dc cX5_readStep 50 (.invokevirtual 45) 3 53 := ⟨by decide +kernel, rfl⟩
theorem dX5_readStep_53 : Dc cX5_readStep 53 (.bipush 43) 2 55 := ⟨by decide +kernel, rfl⟩
theorem dX5_readStep_55 : Db cX5_readStep 55 (fun o => .if_icmp .eq o) 58 67 := ⟨12, by decide +kernel, rfl, rfl⟩
theorem dX5_readStep_58 : Dc cX5_readStep 58 (.aload_n 0) 1 59 := ⟨by decide +kernel, rfl⟩
theorem dX5_readStep_59 : Dc cX5_readStep 59 (.invokevirtual 45) 3 62 := ⟨by decide +kernel, rfl⟩
theorem dX5_readStep_62 : Dc cX5_readStep 62 (.bipush 45) 2 64 := ⟨by decide +kernel, rfl⟩
theorem dX5_readStep_64 : Db cX5_readStep 64 (fun o => .if_icmp .ne o) 67 116 := ⟨52, by decide +kernel, rfl, rfl⟩
theorem dX5_readStep_67 : Dc cX5_readStep 67 (.aload_n 0) 1 68 := ⟨by decide +kernel, rfl⟩
theorem dX5_readStep_68 : Dc cX5_readStep 68 (.invokevirtual 45) 3 71 := ⟨by decide +kernel, rfl⟩
theorem dX5_readStep_71 : Dc cX5_readStep 71 (.bipush 43) 2 73 := ⟨by decide +kernel, rfl⟩
theorem dX5_readStep_73 : Db cX5_readStep 73 (fun o => .if_icmp .ne o) 76 80 := ⟨7, by decide +kernel, rfl, rfl⟩
theorem dX5_readStep_76 : Dc cX5_readStep 76 (.iconst 1) 1 77 := ⟨by decide +kernel, rfl⟩
theorem dX5_readStep_77 : Db cX5_readStep 77 .goto 80 81 := ⟨4, by decide +kernel, rfl, rfl⟩
theorem dX5_readStep_80 : Dc cX5_readStep 80 (.iconst (-1)) 1 81 := ⟨by decide +kernel, rfl⟩
theorem dX5_readStep_81 : Dc cX5_readStep 81 (.istore 5) 2 83 := ⟨by decide +kernel, rfl⟩
theorem dX5_readStep_83 : Dc cX5_readStep 83 (.aload_n 0) 1 84 := ⟨by decide +kernel, rfl⟩
theorem dX5_readStep_84 : Dc cX5_readStep 84 (.dup) 1 85 := ⟨by decide +kernel, rfl⟩
theorem dX5_readStep_85 : Dc cX5_readStep 85 (.getfield 28) 3 88 := ⟨by decide +kernel, rfl⟩
theorem dX5_readStep_88 : Dc cX5_readStep 88 (.iconst 1) 1 89 := ⟨by decide +kernel, rfl⟩
theorem dX5_readStep_89 : Dc cX5_readStep 89 (.iadd) 1 90 := ⟨by decide +kernel, rfl⟩
theorem dX5_readStep_90 : Dc cX5_readStep 90 (.putfield 28) 3 93 := ⟨by decide +kernel, rfl⟩
theorem dX5_readStep_93 : Dc cX5_readStep 93 (.aload_n 0) 1 94 := ⟨by decide +kernel, rfl⟩
theorem dX5_readStep_94 : Dc cX5_readStep 94 (.iconst 1) 1 95 := ⟨by decide +kernel, rfl⟩
theorem dX5_readStep_95 : Dc cX5_readStep 95 (.bipush 99) 2 97 := ⟨by decide +kernel, rfl⟩
theorem dX5_readStep_97 : Dc cX5_readStep 97 (.invokevirtual 57) 3 100 := ⟨by decide +kernel, rfl⟩
theorem dX5_readStep_100 : Dc cX5_readStep 100 (.istore 6) 2 102 := ⟨by decide +kernel, rfl⟩
theorem dX5_readStep_102 : Dc cX5_readStep 102 (.iload 6) 2 104 := ⟨by decide +kernel, rfl⟩
theorem dX5_readStep_104 : Db cX5_readStep 104 (fun o => .ifCond .ge o) 107 109 := ⟨5, by decide +kernel, rfl, rfl⟩
theorem dX5_readStep_107 : Dc cX5_readStep 107 (.iconst 0) 1 108 := ⟨by decide +kernel, rfl⟩
theorem dX5_readStep_108 : Dc cX5_readStep 108 (.ireturn) 1 109 := ⟨by decide +kernel, rfl⟩
theorem dX5_readStep_109 : Dc cX5_readStep 109 (.iload 5) 2 111 := ⟨by decide +kernel, rfl⟩
theorem dX5_readStep_111 : Dc cX5_readStep 111 (.iload 6) 2 113 := ⟨by decide +kernel, rfl⟩
theorem dX5_readStep_113 : Dc cX5_readStep 113 (.imul) 1 114 := ⟨by decide +kernel, rfl⟩
theorem dX5_readStep_114 : Dc cX5_readStep 114 (.istore 4) 2 116 := ⟨by decide +kernel, rfl⟩
theorem dX5_readStep_116 : Dc cX5_readStep 116 (.aload_n 0) 1 117 := ⟨by decide +kernel, rfl⟩
theorem dX5_readStep_117 : Dc cX5_readStep 117 (.getfield 20) 3 120 := ⟨by decide +kernel, rfl⟩
theorem dX5_readStep_120 : Dc cX5_readStep 120 (.aload_n 0) 1 121 := ⟨by decide +kernel, rfl⟩
theorem dX5_readStep_121 : Dc cX5_readStep 121 (.getfield 20) 3 124 := ⟨by decide +kernel, rfl⟩
theorem dX5_readStep_124 : Dc cX5_readStep 124 (.getfield 78) 3 127 := ⟨by decide +kernel, rfl⟩
theorem dX5_readStep_127 : Dc cX5_readStep 127 (.iload_n 2) 1 128 := ⟨by decide +kernel, rfl⟩
theorem dX5_readStep_128 : Dc cX5_readStep 128 (.iload_n 3) 1 129 := ⟨by decide +kernel, rfl⟩
theorem dX5_readStep_129 : Dc cX5_readStep 129 (.iload 4) 2 131 := ⟨by decide +kernel, rfl⟩
theorem dX5_readStep_131 : Dc cX5_readStep 131 (.invokevirtual 81) 3 134 := ⟨by decide +kernel, rfl⟩
theorem dX5_readStep_134 : Dc cX5_readStep 134 (.iconst 1) 1 135 := ⟨by decide +kernel, rfl⟩
theorem dX5_readStep_135 : Dc cX5_readStep 135 (.ireturn) 1 136 := ⟨by decide +kernel, rfl⟩
theorem dX5_readNumber_0 : Dc cX5_readNumber 0 (.aload_n 0) 1 1 := ⟨by decide +kernel, rfl⟩
theorem dX5_readNumber_1 : Dc cX5_readNumber 1 (.invokevirtual 45) 3 4 := ⟨by decide +kernel, rfl⟩
theorem dX5_readNumber_4 : Dc cX5_readNumber 4 (.invokestatic 49) 3 7 := ⟨by decide +kernel, rfl⟩
theorem dX5_readNumber_7 : Dc cX5_readNumber 7 (.istore_n 3) 1 8 := ⟨by decide +kernel, rfl⟩
theorem dX5_readNumber_8 : Dc cX5_readNumber 8 (.iload_n 3) 1 9 := ⟨by decide +kernel, rfl⟩
theorem dX5_readNumber_9 : Db cX5_readNumber 9 (fun o => .ifCond .lt o) 12 20 := ⟨11, by decide +kernel, rfl, rfl⟩
theorem dX5_readNumber_12 : Dc cX5_readNumber 12 (.iload_n 3) 1 13 := ⟨by decide +kernel, rfl⟩
theorem dX5_readNumber_13 : Db cX5_readNumber 13 (fun o => .ifCond .ne o) 16 22 := ⟨9, by decide +kernel, rfl, rfl⟩
theorem dX5_readNumber_16 : Dc cX5_readNumber 16 (.iload_n 1) 1 17 := ⟨by decide +kernel, rfl⟩
theorem dX5_readNumber_17 : Db cX5_readNumber 17 (fun o => .ifCond .le o) 20 22 := ⟨5, by decide +kernel, rfl, rfl⟩
theorem dX5_readNumber_20 : Dc cX5_readNumber 20 (.iconst (-1)) 1 21 := ⟨by decide +kernel, rfl⟩
theorem dX5_readNumber_21 : Dc cX5_readNumber 21 (.ireturn) 1 22 := ⟨by decide +kernel, rfl⟩
theorem dX5_readNumber_22 : Dc cX5_readNumber 22 (.aload_n 0) 1 23 := ⟨by decide +kernel, rfl⟩
theorem dX5_readNumber_23 : Dc cX5_readNumber 23 (.dup) 1 24 := ⟨by decide +kernel, rfl⟩
theorem dX5_readNumber_24 : Dc cX5_readNumber 24 (.getfield 28) 3 27 := ⟨by decide +kernel, rfl⟩
theorem dX5_readNumber_27 : Dc cX5_readNumber 27 (.iconst 1) 1 28 := ⟨by decide +kernel, rfl⟩
theorem dX5_readNumber_28 : Dc cX5_readNumber 28 (.iadd) 1 29 := ⟨by decide +kernel, rfl⟩
theorem dX5_readNumber_29 : Dc cX5_readNumber 29 (.putfield 28) 3 32 := ⟨by decide +kernel, rfl⟩
theorem dX5_readNumber_32 : Dc cX5_readNumber 32 (.aload_n 0) 1 33 := ⟨by decide +kernel, rfl⟩
theorem dX5_readNumber_33 : Dc cX5_readNumber 33 (.invokevirtual 45) 3 36 := ⟨by decide +kernel, rfl⟩
theorem dX5_readNumber_36 : Dc cX5_readNumber 36 (.invokestatic 49) 3 39 := ⟨by decide +kernel, rfl⟩
theorem dX5_readNumber_39 : Dc cX5_readNumber 39 (.istore 4) 2 41 := ⟨by decide +kernel, rfl⟩
theorem dX5_readNumber_41 : Dc cX5_readNumber 41 (.iload_n 3) 1 42 := ⟨by decide +kernel, rfl⟩
theorem dX5_readNumber_42 : Db cX5_readNumber 42 (fun o => .ifCond .le o) 45 79 := ⟨37, by decide +kernel, rfl, rfl⟩
theorem dX5_readNumber_45 : Dc cX5_readNumber 45 (.iload 4) 2 47 := ⟨by decide +kernel, rfl⟩
theorem dX5_readNumber_47 : Db cX5_readNumber 47 (fun o => .ifCond .lt o) 50 79 := ⟨32, by decide +kernel, rfl, rfl⟩
theorem dX5_readNumber_50 : Dc cX5_readNumber 50 (.bipush 10) 2 52 := ⟨by decide +kernel, rfl⟩
theorem dX5_readNumber_52 : Dc cX5_readNumber 52 (.iload_n 3) 1 53 := ⟨by decide +kernel, rfl⟩
theorem dX5_readNumber_53 : Dc cX5_readNumber 53 (.imul) 1 54 := ⟨by decide +kernel, rfl⟩
theorem dX5_readNumber_54 : Dc cX5_readNumber 54 (.iload 4) 2 56 := ⟨by decide +kernel, rfl⟩
theorem dX5_readNumber_56 : Dc cX5_readNumber 56 (.iadd) 1 57 := ⟨by decide +kernel, rfl⟩
theorem dX5_readNumber_57 : Dc cX5_readNumber 57 (.iload_n 2) 1 58 := ⟨by decide +kernel, rfl⟩
theorem dX5_readNumber_58 : Db cX5_readNumber 58 (fun o => .if_icmp .gt o) 61 79 := ⟨21, by decide +kernel, rfl, rfl⟩
theorem dX5_readNumber_61 : Dc cX5_readNumber 61 (.bipush 10) 2 63 := ⟨by decide +kernel, rfl⟩
theorem dX5_readNumber_63 : Dc cX5_readNumber 63 (.iload_n 3) 1 64 := ⟨by decide +kernel, rfl⟩
theorem dX5_readNumber_64 : Dc cX5_readNumber 64 (.imul) 1 65 := ⟨by decide +kernel, rfl⟩
theorem dX5_readNumber_65 : Dc cX5_readNumber 65 (.iload 4) 2 67 := ⟨by decide +kernel, rfl⟩
theorem dX5_readNumber_67 : Dc cX5_readNumber 67 (.iadd) 1 68 := ⟨by decide +kernel, rfl⟩
theorem dX5_readNumber_68 : Dc cX5_readNumber 68 (.istore_n 3) 1 69 := ⟨by decide +kernel, rfl⟩
theorem dX5_readNumber_69 : Dc cX5_readNumber 69 (.aload_n 0) 1 70 := ⟨by decide +kernel, rfl⟩
theorem dX5_readNumber_70 : Dc cX5_readNumber 70 (.dup) 1 71 := ⟨by decide +kernel, rfl⟩
theorem dX5_readNumber_71 : Dc cX5_readNumber 71 (.getfield 28) 3 74 := ⟨by decide +kernel, rfl⟩
theorem dX5_readNumber_74 : Dc cX5_readNumber 74 (.iconst 1) 1 75 := ⟨by decide +kernel, rfl⟩
theorem dX5_readNumber_75 : Dc cX5_readNumber 75 (.iadd) 1 76 := ⟨by decide +kernel, rfl⟩
theorem dX5_readNumber_76 : Dc cX5_readNumber 76 (.putfield 28) 3 79 := ⟨by decide +kernel, rfl⟩
theorem dX5_readNumber_79 : Dc cX5_readNumber 79 (.iload_n 3) 1 80 := ⟨by decide +kernel, rfl⟩
theorem dX5_readNumber_80 : Dc cX5_readNumber 80 (.iload_n 1) 1 81 := ⟨by decide +kernel, rfl⟩
theorem dX5_readNumber_81 : Db cX5_readNumber 81 (fun o => .if_icmp .ge o) 84 88 := ⟨7, by decide +kernel, rfl, rfl⟩
theorem dX5_readNumber_84 : Dc cX5_readNumber 84 (.iconst (-1)) 1 85 := ⟨by decide +kernel, rfl⟩
theorem dX5_readNumber_85 : Db cX5_readNumber 85 .goto 88 89 := ⟨4, by decide +kernel, rfl, rfl⟩
theorem dX5_readNumber_88 : Dc cX5_readNumber 88 (.iload_n 3) 1 89 := ⟨by decide +kernel, rfl⟩
theorem dX5_readNumber_89 : Dc cX5_readNumber 89 (.ireturn) 1 90 := ⟨by decide +kernel, rfl⟩
theorem dX5_digitOf_0 : Dc cX5_digitOf 0 (.iload_n 0) 1 1 := ⟨by decide +kernel, rfl⟩
theorem dX5_digitOf_1 : Dc cX5_digitOf 1 (.bipush 48) 2 3 := ⟨by decide +kernel, rfl⟩
theorem dX5_digitOf_3 : Db cX5_digitOf 3 (fun o => .if_icmp .lt o) 6 19 := ⟨16, by decide +kernel, rfl, rfl⟩
theorem dX5_digitOf_6 : Dc cX5_digitOf 6 (.iload_n 0) 1 7 := ⟨by decide +kernel, rfl⟩
theorem dX5_digitOf_7 : Dc cX5_digitOf 7 (.bipush 57) 2 9 := ⟨by decide +kernel, rfl⟩
theorem dX5_digitOf_9 : Db cX5_digitOf 9 (fun o => .if_icmp .gt o) 12 19 := ⟨10, by decide +kernel, rfl, rfl⟩
theorem dX5_digitOf_12 : Dc cX5_digitOf 12 (.iload_n 0) 1 13 := ⟨by decide +kernel, rfl⟩
theorem dX5_digitOf_13 : Dc cX5_digitOf 13 (.bipush 48) 2 15 := ⟨by decide +kernel, rfl⟩
theorem dX5_digitOf_15 : Dc cX5_digitOf 15 (.isub) 1 16 := ⟨by decide +kernel, rfl⟩
theorem dX5_digitOf_16 : Db cX5_digitOf 16 .goto 19 20 := ⟨4, by decide +kernel, rfl, rfl⟩
theorem dX5_digitOf_19 : Dc cX5_digitOf 19 (.iconst (-1)) 1 20 := ⟨by decide +kernel, rfl⟩
theorem dX5_digitOf_20 : Dc cX5_digitOf 20 (.ireturn) 1 21 := ⟨by decide +kernel, rfl⟩
theorem dX5_take_0 : Dc cX5_take 0 (.aload_n 0) 1 1 := ⟨by decide +kernel, rfl⟩
theorem dX5_take_1 : Dc cX5_take 1 (.invokevirtual 45) 3 4 := ⟨by decide +kernel, rfl⟩
theorem dX5_take_4 : Dc cX5_take 4 (.iload_n 1) 1 5 := ⟨by decide +kernel, rfl⟩
theorem dX5_take_5 : Db cX5_take 5 (fun o => .if_icmp .eq o) 8 10 := ⟨5, by decide +kernel, rfl, rfl⟩
theorem dX5_take_8 : Dc cX5_take 8 (.iconst 0) 1 9 := ⟨by decide +kernel, rfl⟩
theorem dX5_take_9 : Dc cX5_take 9 (.ireturn) 1 10 := ⟨by decide +kernel, rfl⟩
theorem dX5_take_10 : Dc cX5_take 10 (.aload_n 0) 1 11 := ⟨by decide +kernel, rfl⟩
theorem dX5_take_11 : Dc cX5_take 11 (.dup) 1 12 := ⟨by decide +kernel, rfl⟩
theorem dX5_take_12 : Dc cX5_take 12 (.getfield 28) 3 15 := ⟨by decide +kernel, rfl⟩
theorem dX5_take_15 : Dc cX5_take 15 (.iconst 1) 1 16 := ⟨by decide +kernel, rfl⟩
theorem dX5_take_16 : Dc cX5_take 16 (.iadd) 1 17 := ⟨by decide +kernel, rfl⟩
theorem dX5_take_17 : Dc cX5_take 17 (.putfield 28) 3 20 := ⟨by decide +kernel, rfl⟩
theorem dX5_take_20 : Dc cX5_take 20 (.iconst 1) 1 21 := ⟨by decide +kernel, rfl⟩
theorem dX5_take_21 : Dc cX5_take 21 (.ireturn) 1 22 := ⟨by decide +kernel, rfl⟩
theorem dX5_next_0 : Dc cX5_next 0 (.aload_n 0) 1 1 := ⟨by decide +kernel, rfl⟩
theorem dX5_next_1 : Dc cX5_next 1 (.getfield 28) 3 4 := ⟨by decide +kernel, rfl⟩
theorem dX5_next_4 : Db cX5_next 4 (fun o => .ifCond .lt o) 7 42 := ⟨38, by decide +kernel, rfl, rfl⟩
theorem dX5_next_7 : Dc cX5_next 7 (.aload_n 0) 1 8 := ⟨by decide +kernel, rfl⟩
theorem dX5_next_8 : Dc cX5_next 8 (.getfield 28) 3 11 := ⟨by decide +kernel, rfl⟩
theorem dX5_next_11 : Dc cX5_next 11 (.aload_n 0) 1 12 := ⟨by decide +kernel, rfl⟩
theorem dX5_next_12 : Dc cX5_next 12 (.getfield 24) 3 15 := ⟨by decide +kernel, rfl⟩
theorem dX5_next_15 : Db cX5_next 15 (fun o => .if_icmp .ge o) 18 42 := ⟨27, by decide +kernel, rfl, rfl⟩
theorem dX5_next_18 : Dc cX5_next 18 (.aload_n 0) 1 19 := ⟨by decide +kernel, rfl⟩
theorem dX5_next_19 : Dc cX5_next 19 (.getfield 28) 3 22 := ⟨by decide +kernel, rfl⟩
theorem dX5_next_22 : Dc cX5_next 22 (.aload_n 0) 1 23 := ⟨by decide +kernel, rfl⟩
theorem dX5_next_23 : Dc cX5_next 23 (.getfield 9) 3 26 := ⟨by decide +kernel, rfl⟩
theorem dX5_next_26 : Dc cX5_next 26 (.arraylength) 1 27 := ⟨by decide +kernel, rfl⟩
theorem dX5_next_27 : Db cX5_next 27 (fun o => .if_icmp .ge o) 30 42 := ⟨15, by decide +kernel, rfl, rfl⟩
theorem dX5_next_30 : Dc cX5_next 30 (.aload_n 0) 1 31 := ⟨by decide +kernel, rfl⟩
theorem dX5_next_31 : Dc cX5_next 31 (.getfield 9) 3 34 := ⟨by decide +kernel, rfl⟩
theorem dX5_next_34 : Dc cX5_next 34 (.aload_n 0) 1 35 := ⟨by decide +kernel, rfl⟩
theorem dX5_next_35 : Dc cX5_next 35 (.getfield 28) 3 38 := ⟨by decide +kernel, rfl⟩
theorem dX5_next_38 : Dc cX5_next 38 (.caload) 1 39 := ⟨by decide +kernel, rfl⟩
theorem dX5_next_39 : Db cX5_next 39 .goto 42 43 := ⟨4, by decide +kernel, rfl, rfl⟩
theorem dX5_next_42 : Dc cX5_next 42 (.iconst 0) 1 43 := ⟨by decide +kernel, rfl⟩
theorem dX5_next_43 : Dc cX5_next 43 (.ireturn) 1 44 := ⟨by decide +kernel, rfl⟩
end
section
theorem dX6_init_0 : Dc cX6_init 0 (.aload_n 0) 1 1 := ⟨by decide +kernel, rfl⟩
theorem dX6_init_1 : Dc cX6_init 1 (.invokespecial 3) 3 4 := ⟨by decide +kernel, rfl⟩
theorem dX6_init_4 : Dc cX6_init 4 (.aload_n 0) 1 5 := ⟨by decide +kernel, rfl⟩
theorem dX6_init_5 : Dc cX6_init 5 (.new 9) 3 8 := ⟨by decide +kernel, rfl⟩
theorem dX6_init_8 : Dc cX6_init 8 (.dup) 1 9 := ⟨by decide +kernel, rfl⟩
theorem dX6_init_9 : Dc cX6_init 9 (.invokespecial 11) 3 12 := ⟨by decide +kernel, rfl⟩
theorem dX6_init_12 : Dc cX6_init 12 (.putfield 12) 3 15 := ⟨by decide +kernel, rfl⟩
theorem dX6_init_15 : Dc cX6_init 15 (.aload_n 0) 1 16 := ⟨by decide +kernel, rfl⟩
theorem dX6_init_16 : Dc cX6_init 16 (.new 16) 3 19 := ⟨by decide +kernel, rfl⟩
theorem dX6_init_19 : Dc cX6_init 19 (.dup) 1 20 := ⟨by decide +kernel, rfl⟩
theorem dX6_init_20 : Dc cX6_init 20 (.invokespecial 18) 3 23 := ⟨by decide +kernel, rfl⟩
theorem dX6_init_23 : Dc cX6_init 23 (.putfield 19) 3 26 := ⟨by decide +kernel, rfl⟩
theorem dX6_init_26 : Dc cX6_init 26 (.aload_n 0) 1 27 := ⟨by decide +kernel, rfl⟩
theorem dX6_init_27 : Dc cX6_init 27 (.new 9) 3 30 := ⟨by decide +kernel, rfl⟩
theorem dX6_init_30 : Dc cX6_init 30 (.dup) 1 31 := ⟨by decide +kernel, rfl⟩
theorem dX6_init_31 : Dc cX6_init 31 (.invokespecial 11) 3 34 := ⟨by decide +kernel, rfl⟩
theorem dX6_init_34 : Dc cX6_init 34 (.putfield 23) 3 37 := ⟨by decide +kernel, rfl⟩
theorem dX6_init_37 : Dc cX6_init 37 (.aload_n 0) 1 38 := ⟨by decide +kernel, rfl⟩
theorem dX6_init_38 : Dc cX6_init 38 (.new 26) 3 41 := ⟨by decide +kernel, rfl⟩
theorem dX6_init_41 : Dc cX6_init 41 (.dup) 1 42 := ⟨by decide +kernel, rfl⟩
theorem dX6_init_42 : Dc cX6_init 42 (.invokespecial 28) 3 45 := ⟨by decide +kernel, rfl⟩
theorem dX6_init_45 : Dc cX6_init 45 (.putfield 29) 3 48 := ⟨by decide +kernel, rfl⟩
theorem dX6_init_48 : Dc cX6_init 48 (.aload_n 0) 1 49 := ⟨by decide +kernel, rfl⟩
theorem dX6_init_49 : Dc cX6_init 49 (.new 33) 3 52 := ⟨by decide +kernel, rfl⟩
theorem dX6_init_52 : Dc cX6_init 52 (.dup) 1 53 := ⟨by decide +kernel, rfl⟩
theorem dX6_init_53 : Dc cX6_init 53 (.invokespecial 35) 3 56 := ⟨by decide +kernel, rfl⟩
theorem dX6_init_56 : Dc cX6_init 56 (.putfield 36) 3 59 := ⟨by decide +kernel, rfl⟩
theorem dX6_init_59 : Dc cX6_init 59 (.aload_n 0) 1 60 := ⟨by decide +kernel, rfl⟩
theorem dX6_init_60 : Dc cX6_init 60 (.new 40) 3 63 := ⟨by decide +kernel, rfl⟩
theorem dX6_init_63 : Dc cX6_init 63 (.dup) 1 64 := ⟨by decide +kernel, rfl⟩
theorem dX6_init_64 : Dc cX6_init 64 (.invokespecial 42) 3 67 := ⟨by decide +kernel, rfl⟩
theorem dX6_init_67 : Dc cX6_init 67 (.putfield 43) 3 70 := ⟨by decide +kernel, rfl⟩
theorem dX6_init_70 : Dc cX6_init 70 (.aload_n 0) 1 71 := ⟨by decide +kernel, rfl⟩
theorem dX6_init_71 : Dc cX6_init 71 (.bipush 13) 2 73 := ⟨by decide +kernel, rfl⟩
theorem dX6_init_73 : Dc cX6_init 73 (.newarray .int) 2 75 := ⟨by decide +kernel, rfl⟩
theorem dX6_init_75 : Dc cX6_init 75 (.putfield 47) 3 78 := ⟨by decide +kernel, rfl⟩
theorem dX6_init_78 : Dc cX6_init 78 (.return_) 1 79 := ⟨by decide +kernel, rfl⟩
theorem dX6_step_0 : Dc cX6_step 0 (.iload_n 1) 1 1 := ⟨by decide +kernel, rfl⟩
theorem dX6_step_1 : Dc cX6_step 1 (.invokestatic 51) 3 4 := ⟨by decide +kernel, rfl⟩
theorem dX6_step_4 : Db cX6_step 4 (fun o => .ifCond .ne o) 7 9 := ⟨5, by decide +kernel, rfl, rfl⟩
theorem dX6_step_7 : Dc cX6_step 7 (.iconst (-1)) 1 8 := ⟨by decide +kernel, rfl⟩
theorem dX6_step_8 : Dc cX6_step 8 (.ireturn) 1 9 := ⟨by decide +kernel, rfl⟩
theorem dX6_step_9 : Dc cX6_step 9 (.iload_n 1) 1 10 := ⟨by decide +kernel, rfl⟩
theorem dX6_step_10 : Dc cX6_step 10 (.iload_n 2) 1 11 := ⟨by decide +kernel, rfl⟩
theorem dX6_step_11 : Dc cX6_step 11 (.invokestatic 55) 3 14 := ⟨by decide +kernel, rfl⟩
theorem dX6_step_14 : Db cX6_step 14 (fun o => .ifCond .ne o) 17 20 := ⟨6, by decide +kernel, rfl, rfl⟩
theorem dX6_step_17 : Dc cX6_step 17 (.bipush (-2)) 2 19 := ⟨by decide +kernel, rfl⟩
theorem dX6_step_19 : Dc cX6_step 19 (.ireturn) 1 20 := ⟨by decide +kernel, rfl⟩
theorem dX6_step_20 : Dc cX6_step 20 (.aload_n 0) 1 21 := ⟨by decide +kernel, rfl⟩
theorem dX6_step_21 : Dc cX6_step 21 (.getfield 12) 3 24 := ⟨by decide +kernel, rfl⟩
theorem dX6_step_24 : Dc cX6_step 24 (.getfield 59) 3 27 := ⟨by decide +kernel, rfl⟩
theorem dX6_step_27 : Db cX6_step 27 (fun o => .ifCond .eq o) 30 45 := ⟨18, by decide +kernel, rfl, rfl⟩
theorem dX6_step_30 : Dc cX6_step 30 (.aload_n 0) 1 31 := ⟨by decide +kernel, rfl⟩
theorem dX6_step_31 : Dc cX6_step 31 (.getfield 12) 3 34 := ⟨by decide +kernel, rfl⟩
theorem dX6_step_34 : Dc cX6_step 34 (.invokevirtual 63) 3 37 := ⟨by decide +kernel, rfl⟩
theorem dX6_step_37 : Dc cX6_step 37 (.bipush 12) 2 39 := ⟨by decide +kernel, rfl⟩
theorem dX6_step_39 : Db cX6_step 39 (fun o => .if_icmp .lt o) 42 45 := ⟨6, by decide +kernel, rfl, rfl⟩
theorem dX6_step_42 : Dc cX6_step 42 (.bipush (-3)) 2 44 := ⟨by decide +kernel, rfl⟩
theorem dX6_step_44 : Dc cX6_step 44 (.ireturn) 1 45 := ⟨by decide +kernel, rfl⟩
theorem dX6_step_45 : Dc cX6_step 45 (.aload_n 0) 1 46 := ⟨by decide +kernel, rfl⟩
theorem dX6_step_46 : Dc cX6_step 46 (.getfield 19) 3 49 := ⟨by decide +kernel, rfl⟩
theorem dX6_step_49 : Dc cX6_step 49 (.aload_n 0) 1 50 := ⟨by decide +kernel, rfl⟩
theorem dX6_step_50 : Dc cX6_step 50 (.getfield 12) 3 53 := ⟨by decide +kernel, rfl⟩
theorem dX6_step_53 : Dc cX6_step 53 (.invokevirtual 67) 3 56 := ⟨by decide +kernel, rfl⟩
theorem dX6_step_56 : Dc cX6_step 56 (.aload_n 0) 1 57 := ⟨by decide +kernel, rfl⟩
theorem dX6_step_57 : Dc cX6_step 57 (.getfield 12) 3 60 := ⟨by decide +kernel, rfl⟩
theorem dX6_step_60 : Dc cX6_step 60 (.iload_n 1) 1 61 := ⟨by decide +kernel, rfl⟩
theorem dX6_step_61 : Dc cX6_step 61 (.iload_n 2) 1 62 := ⟨by decide +kernel, rfl⟩
theorem dX6_step_62 : Dc cX6_step 62 (.invokevirtual 71) 3 65 := ⟨by decide +kernel, rfl⟩
theorem dX6_step_65 : Dc cX6_step 65 (.istore_n 3) 1 66 := ⟨by decide +kernel, rfl⟩
theorem dX6_step_66 : Dc cX6_step 66 (.aload_n 0) 1 67 := ⟨by decide +kernel, rfl⟩
theorem dX6_step_67 : Dc cX6_step 67 (.getfield 12) 3 70 := ⟨by decide +kernel, rfl⟩
theorem dX6_step_70 : Dc cX6_step 70 (.getfield 59) 3 73 := ⟨by decide +kernel, rfl⟩
theorem dX6_step_73 : Db cX6_step 73 (fun o => .ifCond .eq o) 76 99 := ⟨26, by decide +kernel, rfl, rfl⟩
theorem dX6_step_76 : Dc cX6_step 76 (.aload_n 0) 1 77 := ⟨by decide +kernel, rfl⟩
theorem dX6_step_77 : Dc cX6_step 77 (.getfield 12) 3 80 := ⟨by decide +kernel, rfl⟩
theorem dX6_step_80 : Dc cX6_step 80 (.getfield 74) 3 83 := ⟨by decide +kernel, rfl⟩
theorem dX6_step_83 : Dc cX6_step 83 (.aload_n 0) 1 84 := ⟨by decide +kernel, rfl⟩
theorem dX6_step_84 : Dc cX6_step 84 (.getfield 12) 3 87 := ⟨by decide +kernel, rfl⟩
theorem dX6_step_87 : Dc cX6_step 87 (.getfield 74) 3 90 := ⟨by decide +kernel, rfl⟩
theorem dX6_step_90 : Dc cX6_step 90 (.getfield 78) 3 93 := ⟨by decide +kernel, rfl⟩
theorem dX6_step_93 : Dc cX6_step 93 (.iload_n 1) 1 94 := ⟨by decide +kernel, rfl⟩
theorem dX6_step_94 : Dc cX6_step 94 (.iload_n 2) 1 95 := ⟨by decide +kernel, rfl⟩
theorem dX6_step_95 : Dc cX6_step 95 (.iconst 0) 1 96 := ⟨by decide +kernel, rfl⟩
theorem dX6_step_96 : Dc cX6_step 96 (.invokevirtual 84) 3 99 := ⟨by decide +kernel, rfl⟩
theorem dX6_step_99 : Dc cX6_step 99 (.iload_n 3) 1 100 := ⟨by decide +kernel, rfl⟩
theorem dX6_step_100 : Db cX6_step 100 (fun o => .ifCond .eq o) 103 116 := ⟨16, by decide +kernel, rfl, rfl⟩
theorem dX6_step_103 : Dc cX6_step 103 (.aload_n 0) 1 104 := ⟨by decide +kernel, rfl⟩
theorem dX6_step_104 : Dc cX6_step 104 (.getfield 12) 3 107 := ⟨by decide +kernel, rfl⟩
theorem dX6_step_107 : Dc cX6_step 107 (.getfield 88) 3 110 := ⟨by decide +kernel, rfl⟩
theorem dX6_step_110 : Dc cX6_step 110 (.invokevirtual 91) 3 113 := ⟨by decide +kernel, rfl⟩
theorem dX6_step_113 : Db cX6_step 113 .goto 116 118 := ⟨5, by decide +kernel, rfl, rfl⟩
theorem dX6_step_116 : Dc cX6_step 116 (.bipush 100) 2 118 := ⟨by decide +kernel, rfl⟩
theorem dX6_step_118 : Dc cX6_step 118 (.ireturn) 1 119 := ⟨by decide +kernel, rfl⟩
theorem dX6_record_0 : Dc cX6_record 0 (.aload_n 0) 1 1 := ⟨by decide +kernel, rfl⟩
theorem dX6_record_1 : Dc cX6_record 1 (.getfield 12) 3 4 := ⟨by decide +kernel, rfl⟩
theorem dX6_record_4 : Dc cX6_record 4 (.getfield 59) 3 7 := ⟨by decide +kernel, rfl⟩
theorem dX6_record_7 : Db cX6_record 7 (fun o => .ifCond .eq o) 10 13 := ⟨6, by decide +kernel, rfl, rfl⟩
theorem dX6_record_10 : Dc cX6_record 10 (.bipush (-4)) 2 12 := ⟨by decide +kernel, rfl⟩
theorem dX6_record_12 : Dc cX6_record 12 (.ireturn) 1 13 := ⟨by decide +kernel, rfl⟩
theorem dX6_record_13 : Dc cX6_record 13 (.aload_n 0) 1 14 := ⟨by decide +kernel, rfl⟩
theorem dX6_record_14 : Dc cX6_record 14 (.getfield 12) 3 17 := ⟨by decide +kernel, rfl⟩
theorem dX6_record_17 : Dc cX6_record 17 (.getfield 74) 3 20 := ⟨by decide +kernel, rfl⟩
theorem dX6_record_20 : Dc cX6_record 20 (.invokevirtual 94) 3 23 := ⟨by decide +kernel, rfl⟩
theorem dX6_record_23 : Db cX6_record 23 (fun o => .ifCond .eq o) 26 29 := ⟨6, by decide +kernel, rfl, rfl⟩
theorem dX6_record_26 : Dc cX6_record 26 (.bipush (-3)) 2 28 := ⟨by decide +kernel, rfl⟩
theorem dX6_record_28 : Dc cX6_record 28 (.ireturn) 1 29 := ⟨by decide +kernel, rfl⟩
theorem dX6_record_29 : Dc cX6_record 29 (.aload_n 0) 1 30 := ⟨by decide +kernel, rfl⟩
theorem dX6_record_30 : Dc cX6_record 30 (.getfield 19) 3 33 := ⟨by decide +kernel, rfl⟩
theorem dX6_record_33 : Dc cX6_record 33 (.aload_n 0) 1 34 := ⟨by decide +kernel, rfl⟩
theorem dX6_record_34 : Dc cX6_record 34 (.getfield 12) 3 37 := ⟨by decide +kernel, rfl⟩
theorem dX6_record_37 : Dc cX6_record 37 (.invokevirtual 67) 3 40 := ⟨by decide +kernel, rfl⟩
theorem dX6_record_40 : Dc cX6_record 40 (.aload_n 0) 1 41 := ⟨by decide +kernel, rfl⟩
theorem dX6_record_41 : Dc cX6_record 41 (.getfield 12) 3 44 := ⟨by decide +kernel, rfl⟩
theorem dX6_record_44 : Dc cX6_record 44 (.iconst 1) 1 45 := ⟨by decide +kernel, rfl⟩
theorem dX6_record_45 : Dc cX6_record 45 (.putfield 59) 3 48 := ⟨by decide +kernel, rfl⟩
theorem dX6_record_48 : Dc cX6_record 48 (.aload_n 0) 1 49 := ⟨by decide +kernel, rfl⟩
theorem dX6_record_49 : Dc cX6_record 49 (.getfield 12) 3 52 := ⟨by decide +kernel, rfl⟩
theorem dX6_record_52 : Dc cX6_record 52 (.getfield 74) 3 55 := ⟨by decide +kernel, rfl⟩
theorem dX6_record_55 : Dc cX6_record 55 (.invokevirtual 98) 3 58 := ⟨by decide +kernel, rfl⟩
theorem dX6_record_58 : Dc cX6_record 58 (.aload_n 0) 1 59 := ⟨by decide +kernel, rfl⟩
theorem dX6_record_59 : Dc cX6_record 59 (.getfield 12) 3 62 := ⟨by decide +kernel, rfl⟩
theorem dX6_record_62 : Dc cX6_record 62 (.getfield 74) 3 65 := ⟨by decide +kernel, rfl⟩
theorem dX6_record_65 : Dc cX6_record 65 (.getfield 78) 3 68 := ⟨by decide +kernel, rfl⟩
theorem dX6_record_68 : Dc cX6_record 68 (.ireturn) 1 69 := ⟨by decide +kernel, rfl⟩
theorem dX6_end_0 : Dc cX6_end 0 (.aload_n 0) 1 1 := ⟨by decide +kernel, rfl⟩
theorem dX6_end_1 : Dc cX6_end 1 (.getfield 12) 3 4 := ⟨by decide +kernel, rfl⟩
theorem dX6_end_4 : Dc cX6_end 4 (.getfield 59) 3 7 := ⟨by decide +kernel, rfl⟩
theorem dX6_end_7 : Db cX6_end 7 (fun o => .ifCond .ne o) 10 13 := ⟨6, by decide +kernel, rfl, rfl⟩
theorem dX6_end_10 : Dc cX6_end 10 (.bipush (-4)) 2 12 := ⟨by decide +kernel, rfl⟩
theorem dX6_end_12 : Dc cX6_end 12 (.ireturn) 1 13 := ⟨by decide +kernel, rfl⟩
theorem dX6_end_13 : Dc cX6_end 13 (.aload_n 0) 1 14 := ⟨by decide +kernel, rfl⟩
theorem dX6_end_14 : Dc cX6_end 14 (.getfield 19) 3 17 := ⟨by decide +kernel, rfl⟩
theorem dX6_end_17 : Dc cX6_end 17 (.aload_n 0) 1 18 := ⟨by decide +kernel, rfl⟩
theorem dX6_end_18 : Dc cX6_end 18 (.getfield 12) 3 21 := ⟨by decide +kernel, rfl⟩
theorem dX6_end_21 : Dc cX6_end 21 (.invokevirtual 67) 3 24 := ⟨by decide +kernel, rfl⟩
theorem dX6_end_24 : Dc cX6_end 24 (.aload_n 0) 1 25 := ⟨by decide +kernel, rfl⟩
theorem dX6_end_25 : Dc cX6_end 25 (.getfield 12) 3 28 := ⟨by decide +kernel, rfl⟩
theorem dX6_end_28 : Dc cX6_end 28 (.iconst 0) 1 29 := ⟨by decide +kernel, rfl⟩
theorem dX6_end_29 : Dc cX6_end 29 (.putfield 59) 3 32 := ⟨by decide +kernel, rfl⟩
theorem dX6_end_32 : Dc cX6_end 32 (.aload_n 0) 1 33 := ⟨by decide +kernel, rfl⟩
theorem dX6_end_33 : Dc cX6_end 33 (.getfield 12) 3 36 := ⟨by decide +kernel, rfl⟩
theorem dX6_end_36 : Dc cX6_end 36 (.invokevirtual 63) 3 39 := ⟨by decide +kernel, rfl⟩
theorem dX6_end_39 : Db cX6_end 39 (fun o => .ifCond .ne o) 42 45 := ⟨6, by decide +kernel, rfl, rfl⟩
theorem dX6_end_42 : Dc cX6_end 42 (.bipush 100) 2 44 := ⟨by decide +kernel, rfl⟩
theorem dX6_end_44 : Dc cX6_end 44 (.ireturn) 1 45 := ⟨by decide +kernel, rfl⟩
theorem dX6_end_45 : Dc cX6_end 45 (.aload_n 0) 1 46 := ⟨by decide +kernel, rfl⟩
theorem dX6_end_46 : Dc cX6_end 46 (.getfield 12) 3 49 := ⟨by decide +kernel, rfl⟩
theorem dX6_end_49 : Dc cX6_end 49 (.getfield 74) 3 52 := ⟨by decide +kernel, rfl⟩
theorem dX6_end_52 : Dc cX6_end 52 (.iconst 1) 1 53 := ⟨by decide +kernel, rfl⟩
theorem dX6_end_53 : Dc cX6_end 53 (.invokevirtual 101) 3 56 := ⟨by decide +kernel, rfl⟩
theorem dX6_end_56 : Dc cX6_end 56 (.ireturn) 1 57 := ⟨by decide +kernel, rfl⟩
theorem dX6_dropTry_0 : Dc cX6_dropTry 0 (.aload_n 0) 1 1 := ⟨by decide +kernel, rfl⟩
theorem dX6_dropTry_1 : Dc cX6_dropTry 1 (.getfield 12) 3 4 := ⟨by decide +kernel, rfl⟩
theorem dX6_dropTry_4 : Dc cX6_dropTry 4 (.getfield 74) 3 7 := ⟨by decide +kernel, rfl⟩
theorem dX6_dropTry_7 : Dc cX6_dropTry 7 (.iload_n 1) 1 8 := ⟨by decide +kernel, rfl⟩
theorem dX6_dropTry_8 : Dc cX6_dropTry 8 (.invokevirtual 105) 3 11 := ⟨by decide +kernel, rfl⟩
theorem dX6_dropTry_11 : Db cX6_dropTry 11 (fun o => .ifCond .ne o) 14 16 := ⟨5, by decide +kernel, rfl, rfl⟩
theorem dX6_dropTry_14 : Dc cX6_dropTry 14 (.iconst (-1)) 1 15 := ⟨by decide +kernel, rfl⟩
theorem dX6_dropTry_15 : Dc cX6_dropTry 15 (.ireturn) 1 16 := ⟨by decide +kernel, rfl⟩
theorem dX6_dropTry_16 : Dc cX6_dropTry 16 (.aload_n 0) 1 17 := ⟨by decide +kernel, rfl⟩
theorem dX6_dropTry_17 : Dc cX6_dropTry 17 (.getfield 19) 3 20 := ⟨by decide +kernel, rfl⟩
theorem dX6_dropTry_20 : Dc cX6_dropTry 20 (.aload_n 0) 1 21 := ⟨by decide +kernel, rfl⟩
theorem dX6_dropTry_21 : Dc cX6_dropTry 21 (.getfield 12) 3 24 := ⟨by decide +kernel, rfl⟩
theorem dX6_dropTry_24 : Dc cX6_dropTry 24 (.invokevirtual 67) 3 27 := ⟨by decide +kernel, rfl⟩
theorem dX6_dropTry_27 : Dc cX6_dropTry 27 (.aload_n 0) 1 28 := ⟨by decide +kernel, rfl⟩
theorem dX6_dropTry_28 : Dc cX6_dropTry 28 (.getfield 12) 3 31 := ⟨by decide +kernel, rfl⟩
theorem dX6_dropTry_31 : Dc cX6_dropTry 31 (.getfield 74) 3 34 := ⟨by decide +kernel, rfl⟩
theorem dX6_dropTry_34 : Dc cX6_dropTry 34 (.iload_n 1) 1 35 := ⟨by decide +kernel, rfl⟩
theorem dX6_dropTry_35 : Dc cX6_dropTry 35 (.invokevirtual 108) 3 38 := ⟨by decide +kernel, rfl⟩
theorem dX6_dropTry_38 : Dc cX6_dropTry 38 (.aload_n 0) 1 39 := ⟨by decide +kernel, rfl⟩
theorem dX6_dropTry_39 : Dc cX6_dropTry 39 (.getfield 12) 3 42 := ⟨by decide +kernel, rfl⟩
theorem dX6_dropTry_42 : Dc cX6_dropTry 42 (.getfield 74) 3 45 := ⟨by decide +kernel, rfl⟩
theorem dX6_dropTry_45 : Dc cX6_dropTry 45 (.getfield 78) 3 48 := ⟨by decide +kernel, rfl⟩
theorem dX6_dropTry_48 : Dc cX6_dropTry 48 (.ireturn) 1 49 := ⟨by decide +kernel, rfl⟩
theorem dX6_generalise_0 : Dc cX6_generalise 0 (.aload_n 0) 1 1 := ⟨by decide +kernel, rfl⟩
theorem dX6_generalise_1 : Dc cX6_generalise 1 (.getfield 12) 3 4 := ⟨by decide +kernel, rfl⟩
theorem dX6_generalise_4 : Dc cX6_generalise 4 (.getfield 74) 3 7 := ⟨by decide +kernel, rfl⟩
theorem dX6_generalise_7 : Dc cX6_generalise 7 (.iload_n 1) 1 8 := ⟨by decide +kernel, rfl⟩
theorem dX6_generalise_8 : Dc cX6_generalise 8 (.invokevirtual 105) 3 11 := ⟨by decide +kernel, rfl⟩
theorem dX6_generalise_11 : Db cX6_generalise 11 (fun o => .ifCond .eq o) 14 28 := ⟨17, by decide +kernel, rfl, rfl⟩
theorem dX6_generalise_14 : Dc cX6_generalise 14 (.aload_n 0) 1 15 := ⟨by decide +kernel, rfl⟩
theorem dX6_generalise_15 : Dc cX6_generalise 15 (.getfield 12) 3 18 := ⟨by decide +kernel, rfl⟩
theorem dX6_generalise_18 : Dc cX6_generalise 18 (.getfield 74) 3 21 := ⟨by decide +kernel, rfl⟩
theorem dX6_generalise_21 : Dc cX6_generalise 21 (.iload_n 2) 1 22 := ⟨by decide +kernel, rfl⟩
theorem dX6_generalise_22 : Dc cX6_generalise 22 (.invokevirtual 105) 3 25 := ⟨by decide +kernel, rfl⟩
theorem dX6_generalise_25 : Db cX6_generalise 25 (fun o => .ifCond .ne o) 28 30 := ⟨5, by decide +kernel, rfl, rfl⟩
theorem dX6_generalise_28 : Dc cX6_generalise 28 (.iconst (-1)) 1 29 := ⟨by decide +kernel, rfl⟩
theorem dX6_generalise_29 : Dc cX6_generalise 29 (.ireturn) 1 30 := ⟨by decide +kernel, rfl⟩
theorem dX6_generalise_30 : Dc cX6_generalise 30 (.aload_n 0) 1 31 := ⟨by decide +kernel, rfl⟩
theorem dX6_generalise_31 : Dc cX6_generalise 31 (.iload_n 1) 1 32 := ⟨by decide +kernel, rfl⟩
theorem dX6_generalise_32 : Dc cX6_generalise 32 (.iload_n 2) 1 33 := ⟨by decide +kernel, rfl⟩
theorem dX6_generalise_33 : Dc cX6_generalise 33 (.invokevirtual 112) 3 36 := ⟨by decide +kernel, rfl⟩
theorem dX6_generalise_36 : Db cX6_generalise 36 (fun o => .ifCond .ne o) 39 42 := ⟨6, by decide +kernel, rfl, rfl⟩
theorem dX6_generalise_39 : Dc cX6_generalise 39 (.bipush (-4)) 2 41 := ⟨by decide +kernel, rfl⟩
theorem dX6_generalise_41 : Dc cX6_generalise 41 (.ireturn) 1 42 := ⟨by decide +kernel, rfl⟩
theorem dX6_generalise_42 : Dc cX6_generalise 42 (.aload_n 0) 1 43 := ⟨by decide +kernel, rfl⟩
theorem dX6_generalise_43 : Dc cX6_generalise 43 (.getfield 12) 3 46 := ⟨by decide +kernel, rfl⟩
theorem dX6_generalise_46 : Dc cX6_generalise 46 (.getfield 115) 3 49 := ⟨by decide +kernel, rfl⟩
theorem dX6_generalise_49 : Dc cX6_generalise 49 (.invokevirtual 94) 3 52 := ⟨by decide +kernel, rfl⟩
theorem dX6_generalise_52 : Db cX6_generalise 52 (fun o => .ifCond .eq o) 55 58 := ⟨6, by decide +kernel, rfl, rfl⟩
theorem dX6_generalise_55 : Dc cX6_generalise 55 (.bipush (-3)) 2 57 := ⟨by decide +kernel, rfl⟩
theorem dX6_generalise_57 : Dc cX6_generalise 57 (.ireturn) 1 58 := ⟨by decide +kernel, rfl⟩
theorem dX6_generalise_58 : Dc cX6_generalise 58 (.aload_n 0) 1 59 := ⟨by decide +kernel, rfl⟩
theorem dX6_generalise_59 : Dc cX6_generalise 59 (.getfield 19) 3 62 := ⟨by decide +kernel, rfl⟩
theorem dX6_generalise_62 : Dc cX6_generalise 62 (.aload_n 0) 1 63 := ⟨by decide +kernel, rfl⟩
theorem dX6_generalise_63 : Dc cX6_generalise 63 (.getfield 12) 3 66 := ⟨by decide +kernel, rfl⟩
theorem dX6_generalise_66 : Dc cX6_generalise 66 (.invokevirtual 67) 3 69 := ⟨by decide +kernel, rfl⟩
theorem dX6_generalise_69 : Dc cX6_generalise 69 (.aload_n 0) 1 70 := ⟨by decide +kernel, rfl⟩
theorem dX6_generalise_70 : Dc cX6_generalise 70 (.iload_n 1) 1 71 := ⟨by decide +kernel, rfl⟩
theorem dX6_generalise_71 : Dc cX6_generalise 71 (.iload_n 2) 1 72 := ⟨by decide +kernel, rfl⟩
theorem dX6_generalise_72 : Dc cX6_generalise 72 (.iconst 0) 1 73 := ⟨by decide +kernel, rfl⟩
theorem dX6_generalise_73 : Dc cX6_generalise 73 (.aload_n 0) 1 74 := ⟨by decide +kernel, rfl⟩
theorem dX6_generalise_74 : Dc cX6_generalise 74 (.getfield 12) 3 77 := ⟨by decide +kernel, rfl⟩
theorem dX6_generalise_77 : Dc cX6_generalise 77 (.getfield 74) 3 80 := ⟨by decide +kernel, rfl⟩
theorem dX6_generalise_80 : Dc cX6_generalise 80 (.iload_n 1) 1 81 := ⟨by decide +kernel, rfl⟩
theorem dX6_generalise_81 : Dc cX6_generalise 81 (.invokevirtual 118) 3 84 := ⟨by decide +kernel, rfl⟩
theorem dX6_generalise_84 : Dc cX6_generalise 84 (.iconst 2) 1 85 := ⟨by decide +kernel, rfl⟩
theorem dX6_generalise_85 : Dc cX6_generalise 85 (.invokevirtual 121) 3 88 := ⟨by decide +kernel, rfl⟩
theorem dX6_generalise_88 : Dc cX6_generalise 88 (.ireturn) 1 89 := ⟨by decide +kernel, rfl⟩
theorem dX6_fold_0 : Dc cX6_fold 0 (.aload_n 0) 1 1 := ⟨by decide +kernel, rfl⟩
theorem dX6_fold_1 : Dc cX6_fold 1 (.getfield 12) 3 4 := ⟨by decide +kernel, rfl⟩
theorem dX6_fold_4 : Dc cX6_fold 4 (.getfield 74) 3 7 := ⟨by decide +kernel, rfl⟩
theorem dX6_fold_7 : Dc cX6_fold 7 (.iload_n 1) 1 8 := ⟨by decide +kernel, rfl⟩
theorem dX6_fold_8 : Dc cX6_fold 8 (.invokevirtual 105) 3 11 := ⟨by decide +kernel, rfl⟩
theorem dX6_fold_11 : Db cX6_fold 11 (fun o => .ifCond .ne o) 14 16 := ⟨5, by decide +kernel, rfl, rfl⟩
theorem dX6_fold_14 : Dc cX6_fold 14 (.iconst (-1)) 1 15 := ⟨by decide +kernel, rfl⟩
theorem dX6_fold_15 : Dc cX6_fold 15 (.ireturn) 1 16 := ⟨by decide +kernel, rfl⟩
theorem dX6_fold_16 : Dc cX6_fold 16 (.aload_n 0) 1 17 := ⟨by decide +kernel, rfl⟩
theorem dX6_fold_17 : Dc cX6_fold 17 (.iload_n 1) 1 18 := ⟨by decide +kernel, rfl⟩
theorem dX6_fold_18 : Dc cX6_fold 18 (.invokevirtual 125) 3 21 := ⟨by decide +kernel, rfl⟩
theorem dX6_fold_21 : Dc cX6_fold 21 (.istore_n 2) 1 22 := ⟨by decide +kernel, rfl⟩
theorem dX6_fold_22 : Dc cX6_fold 22 (.iload_n 2) 1 23 := ⟨by decide +kernel, rfl⟩
theorem dX6_fold_23 : Db cX6_fold 23 (fun o => .ifCond .gt o) 26 29 := ⟨6, by decide +kernel, rfl, rfl⟩
theorem dX6_fold_26 : Dc cX6_fold 26 (.bipush (-4)) 2 28 := ⟨by decide +kernel, rfl⟩
theorem dX6_fold_28 : Dc cX6_fold 28 (.ireturn) 1 29 := ⟨by decide +kernel, rfl⟩
theorem dX6_fold_29 : Dc cX6_fold 29 (.aload_n 0) 1 30 := ⟨by decide +kernel, rfl⟩
theorem dX6_fold_30 : Dc cX6_fold 30 (.getfield 12) 3 33 := ⟨by decide +kernel, rfl⟩
theorem dX6_fold_33 : Dc cX6_fold 33 (.getfield 115) 3 36 := ⟨by decide +kernel, rfl⟩
theorem dX6_fold_36 : Dc cX6_fold 36 (.invokevirtual 94) 3 39 := ⟨by decide +kernel, rfl⟩
theorem dX6_fold_39 : Db cX6_fold 39 (fun o => .ifCond .eq o) 42 45 := ⟨6, by decide +kernel, rfl, rfl⟩
theorem dX6_fold_42 : Dc cX6_fold 42 (.bipush (-3)) 2 44 := ⟨by decide +kernel, rfl⟩
theorem dX6_fold_44 : Dc cX6_fold 44 (.ireturn) 1 45 := ⟨by decide +kernel, rfl⟩
theorem dX6_fold_45 : Dc cX6_fold 45 (.aload_n 0) 1 46 := ⟨by decide +kernel, rfl⟩
theorem dX6_fold_46 : Dc cX6_fold 46 (.getfield 19) 3 49 := ⟨by decide +kernel, rfl⟩
theorem dX6_fold_49 : Dc cX6_fold 49 (.aload_n 0) 1 50 := ⟨by decide +kernel, rfl⟩
theorem dX6_fold_50 : Dc cX6_fold 50 (.getfield 12) 3 53 := ⟨by decide +kernel, rfl⟩
theorem dX6_fold_53 : Dc cX6_fold 53 (.invokevirtual 67) 3 56 := ⟨by decide +kernel, rfl⟩
theorem dX6_fold_56 : Dc cX6_fold 56 (.aload_n 0) 1 57 := ⟨by decide +kernel, rfl⟩
theorem dX6_fold_57 : Dc cX6_fold 57 (.iload_n 1) 1 58 := ⟨by decide +kernel, rfl⟩
theorem dX6_fold_58 : Dc cX6_fold 58 (.iload_n 1) 1 59 := ⟨by decide +kernel, rfl⟩
theorem dX6_fold_59 : Dc cX6_fold 59 (.iload_n 2) 1 60 := ⟨by decide +kernel, rfl⟩
theorem dX6_fold_60 : Dc cX6_fold 60 (.iload_n 2) 1 61 := ⟨by decide +kernel, rfl⟩
theorem dX6_fold_61 : Dc cX6_fold 61 (.aload_n 0) 1 62 := ⟨by decide +kernel, rfl⟩
theorem dX6_fold_62 : Dc cX6_fold 62 (.getfield 12) 3 65 := ⟨by decide +kernel, rfl⟩
theorem dX6_fold_65 : Dc cX6_fold 65 (.getfield 74) 3 68 := ⟨by decide +kernel, rfl⟩
theorem dX6_fold_68 : Dc cX6_fold 68 (.iload_n 1) 1 69 := ⟨by decide +kernel, rfl⟩
theorem dX6_fold_69 : Dc cX6_fold 69 (.invokevirtual 118) 3 72 := ⟨by decide +kernel, rfl⟩
theorem dX6_fold_72 : Dc cX6_fold 72 (.iload_n 2) 1 73 := ⟨by decide +kernel, rfl⟩
theorem dX6_fold_73 : Dc cX6_fold 73 (.idiv) 1 74 := ⟨by decide +kernel, rfl⟩
theorem dX6_fold_74 : Dc cX6_fold 74 (.invokevirtual 121) 3 77 := ⟨by decide +kernel, rfl⟩
theorem dX6_fold_77 : Dc cX6_fold 77 (.ireturn) 1 78 := ⟨by decide +kernel, rfl⟩
theorem dX6_setTurns_0 : Dc cX6_setTurns 0 (.aload_n 0) 1 1 := ⟨by decide +kernel, rfl⟩
theorem dX6_setTurns_1 : Dc cX6_setTurns 1 (.getfield 12) 3 4 := ⟨by decide +kernel, rfl⟩
theorem dX6_setTurns_4 : Dc cX6_setTurns 4 (.getfield 115) 3 7 := ⟨by decide +kernel, rfl⟩
theorem dX6_setTurns_7 : Dc cX6_setTurns 7 (.iload_n 1) 1 8 := ⟨by decide +kernel, rfl⟩
theorem dX6_setTurns_8 : Dc cX6_setTurns 8 (.invokevirtual 105) 3 11 := ⟨by decide +kernel, rfl⟩
theorem dX6_setTurns_11 : Db cX6_setTurns 11 (fun o => .ifCond .ne o) 14 16 := ⟨5, by decide +kernel, rfl, rfl⟩
theorem dX6_setTurns_14 : Dc cX6_setTurns 14 (.iconst (-1)) 1 15 := ⟨by decide +kernel, rfl⟩
theorem dX6_setTurns_15 : Dc cX6_setTurns 15 (.ireturn) 1 16 := ⟨by decide +kernel, rfl⟩
theorem dX6_setTurns_16 : Dc cX6_setTurns 16 (.iload_n 2) 1 17 := ⟨by decide +kernel, rfl⟩
theorem dX6_setTurns_17 : Dc cX6_setTurns 17 (.invokestatic 128) 3 20 := ⟨by decide +kernel, rfl⟩
theorem dX6_setTurns_20 : Db cX6_setTurns 20 (fun o => .ifCond .ne o) 23 26 := ⟨6, by decide +kernel, rfl, rfl⟩
theorem dX6_setTurns_23 : Dc cX6_setTurns 23 (.bipush (-2)) 2 25 := ⟨by decide +kernel, rfl⟩
theorem dX6_setTurns_25 : Dc cX6_setTurns 25 (.ireturn) 1 26 := ⟨by decide +kernel, rfl⟩
theorem dX6_setTurns_26 : Dc cX6_setTurns 26 (.aload_n 0) 1 27 := ⟨by decide +kernel, rfl⟩
theorem dX6_setTurns_27 : Dc cX6_setTurns 27 (.getfield 12) 3 30 := ⟨by decide +kernel, rfl⟩
theorem dX6_setTurns_30 : Dc cX6_setTurns 30 (.getfield 115) 3 33 := ⟨by decide +kernel, rfl⟩
theorem dX6_setTurns_33 : Dc cX6_setTurns 33 (.iload_n 1) 1 34 := ⟨by decide +kernel, rfl⟩
theorem dX6_setTurns_34 : Dc cX6_setTurns 34 (.invokevirtual 131) 3 37 := ⟨by decide +kernel, rfl⟩
theorem dX6_setTurns_37 : Dc cX6_setTurns 37 (.istore_n 3) 1 38 := ⟨by decide +kernel, rfl⟩
theorem dX6_setTurns_38 : Dc cX6_setTurns 38 (.iload_n 3) 1 39 := ⟨by decide +kernel, rfl⟩
theorem dX6_setTurns_39 : Dc cX6_setTurns 39 (.iload_n 2) 1 40 := ⟨by decide +kernel, rfl⟩
theorem dX6_setTurns_40 : Db cX6_setTurns 40 (fun o => .if_icmp .ne o) 43 46 := ⟨6, by decide +kernel, rfl, rfl⟩
theorem dX6_setTurns_43 : Dc cX6_setTurns 43 (.bipush (-5)) 2 45 := ⟨by decide +kernel, rfl⟩
theorem dX6_setTurns_45 : Dc cX6_setTurns 45 (.ireturn) 1 46 := ⟨by decide +kernel, rfl⟩
theorem dX6_setTurns_46 : Dc cX6_setTurns 46 (.aload_n 0) 1 47 := ⟨by decide +kernel, rfl⟩
theorem dX6_setTurns_47 : Dc cX6_setTurns 47 (.getfield 19) 3 50 := ⟨by decide +kernel, rfl⟩
theorem dX6_setTurns_50 : Dc cX6_setTurns 50 (.aload_n 0) 1 51 := ⟨by decide +kernel, rfl⟩
theorem dX6_setTurns_51 : Dc cX6_setTurns 51 (.getfield 12) 3 54 := ⟨by decide +kernel, rfl⟩
theorem dX6_setTurns_54 : Dc cX6_setTurns 54 (.invokevirtual 67) 3 57 := ⟨by decide +kernel, rfl⟩
theorem dX6_setTurns_57 : Dc cX6_setTurns 57 (.aload_n 0) 1 58 := ⟨by decide +kernel, rfl⟩
theorem dX6_setTurns_58 : Dc cX6_setTurns 58 (.getfield 12) 3 61 := ⟨by decide +kernel, rfl⟩
theorem dX6_setTurns_61 : Dc cX6_setTurns 61 (.getfield 115) 3 64 := ⟨by decide +kernel, rfl⟩
theorem dX6_setTurns_64 : Dc cX6_setTurns 64 (.iload_n 1) 1 65 := ⟨by decide +kernel, rfl⟩
theorem dX6_setTurns_65 : Dc cX6_setTurns 65 (.iload_n 2) 1 66 := ⟨by decide +kernel, rfl⟩
theorem dX6_setTurns_66 : Dc cX6_setTurns 66 (.invokevirtual 134) 3 69 := ⟨by decide +kernel, rfl⟩
theorem dX6_setTurns_69 : Dc cX6_setTurns 69 (.iload_n 3) 1 70 := ⟨by decide +kernel, rfl⟩
theorem dX6_setTurns_70 : Dc cX6_setTurns 70 (.ireturn) 1 71 := ⟨by decide +kernel, rfl⟩
theorem dX6_dropLoop_0 : Dc cX6_dropLoop 0 (.aload_n 0) 1 1 := ⟨by decide +kernel, rfl⟩
theorem dX6_dropLoop_1 : Dc cX6_dropLoop 1 (.getfield 12) 3 4 := ⟨by decide +kernel, rfl⟩
theorem dX6_dropLoop_4 : Dc cX6_dropLoop 4 (.getfield 115) 3 7 := ⟨by decide +kernel, rfl⟩
theorem dX6_dropLoop_7 : Dc cX6_dropLoop 7 (.iload_n 1) 1 8 := ⟨by decide +kernel, rfl⟩
theorem dX6_dropLoop_8 : Dc cX6_dropLoop 8 (.invokevirtual 105) 3 11 := ⟨by decide +kernel, rfl⟩
theorem dX6_dropLoop_11 : Db cX6_dropLoop 11 (fun o => .ifCond .ne o) 14 16 := ⟨5, by decide +kernel, rfl, rfl⟩
theorem dX6_dropLoop_14 : Dc cX6_dropLoop 14 (.iconst (-1)) 1 15 := ⟨by decide +kernel, rfl⟩
theorem dX6_dropLoop_15 : Dc cX6_dropLoop 15 (.ireturn) 1 16 := ⟨by decide +kernel, rfl⟩
theorem dX6_dropLoop_16 : Dc cX6_dropLoop 16 (.aload_n 0) 1 17 := ⟨by decide +kernel, rfl⟩
theorem dX6_dropLoop_17 : Dc cX6_dropLoop 17 (.getfield 19) 3 20 := ⟨by decide +kernel, rfl⟩
theorem dX6_dropLoop_20 : Dc cX6_dropLoop 20 (.aload_n 0) 1 21 := ⟨by decide +kernel, rfl⟩
theorem dX6_dropLoop_21 : Dc cX6_dropLoop 21 (.getfield 12) 3 24 := ⟨by decide +kernel, rfl⟩
theorem dX6_dropLoop_24 : Dc cX6_dropLoop 24 (.invokevirtual 67) 3 27 := ⟨by decide +kernel, rfl⟩
theorem dX6_dropLoop_27 : Dc cX6_dropLoop 27 (.aload_n 0) 1 28 := ⟨by decide +kernel, rfl⟩
theorem dX6_dropLoop_28 : Dc cX6_dropLoop 28 (.getfield 12) 3 31 := ⟨by decide +kernel, rfl⟩
theorem dX6_dropLoop_31 : Dc cX6_dropLoop 31 (.getfield 115) 3 34 := ⟨by decide +kernel, rfl⟩
theorem dX6_dropLoop_34 : Dc cX6_dropLoop 34 (.iload_n 1) 1 35 := ⟨by decide +kernel, rfl⟩
theorem dX6_dropLoop_35 : Dc cX6_dropLoop 35 (.invokevirtual 108) 3 38 := ⟨by decide +kernel, rfl⟩
theorem dX6_dropLoop_38 : Dc cX6_dropLoop 38 (.aload_n 0) 1 39 := ⟨by decide +kernel, rfl⟩
theorem dX6_dropLoop_39 : Dc cX6_dropLoop 39 (.getfield 12) 3 42 := ⟨by decide +kernel, rfl⟩
theorem dX6_dropLoop_42 : Dc cX6_dropLoop 42 (.getfield 115) 3 45 := ⟨by decide +kernel, rfl⟩
theorem dX6_dropLoop_45 : Dc cX6_dropLoop 45 (.getfield 78) 3 48 := ⟨by decide +kernel, rfl⟩
theorem dX6_dropLoop_48 : Dc cX6_dropLoop 48 (.ireturn) 1 49 := ⟨by decide +kernel, rfl⟩
theorem dX6_play_0 : Dc cX6_play 0 (.aload_n 0) 1 1 := ⟨by decide +kernel, rfl⟩
theorem dX6_play_1 : Dc cX6_play 1 (.getfield 12) 3 4 := ⟨by decide +kernel, rfl⟩
theorem dX6_play_4 : Dc cX6_play 4 (.getfield 115) 3 7 := ⟨by decide +kernel, rfl⟩
theorem dX6_play_7 : Dc cX6_play 7 (.iload_n 1) 1 8 := ⟨by decide +kernel, rfl⟩
theorem dX6_play_8 : Dc cX6_play 8 (.invokevirtual 105) 3 11 := ⟨by decide +kernel, rfl⟩
theorem dX6_play_11 : Db cX6_play 11 (fun o => .ifCond .ne o) 14 16 := ⟨5, by decide +kernel, rfl, rfl⟩
theorem dX6_play_14 : Dc cX6_play 14 (.iconst (-1)) 1 15 := ⟨by decide +kernel, rfl⟩
theorem dX6_play_15 : Dc cX6_play 15 (.ireturn) 1 16 := ⟨by decide +kernel, rfl⟩
theorem dX6_play_16 : Dc cX6_play 16 (.aload_n 0) 1 17 := ⟨by decide +kernel, rfl⟩
theorem dX6_play_17 : Dc cX6_play 17 (.getfield 12) 3 20 := ⟨by decide +kernel, rfl⟩
theorem dX6_play_20 : Dc cX6_play 20 (.getfield 59) 3 23 := ⟨by decide +kernel, rfl⟩
theorem dX6_play_23 : Db cX6_play 23 (fun o => .ifCond .eq o) 26 29 := ⟨6, by decide +kernel, rfl, rfl⟩
theorem dX6_play_26 : Dc cX6_play 26 (.bipush (-4)) 2 28 := ⟨by decide +kernel, rfl⟩
theorem dX6_play_28 : Dc cX6_play 28 (.ireturn) 1 29 := ⟨by decide +kernel, rfl⟩
theorem dX6_play_29 : Dc cX6_play 29 (.aload_n 0) 1 30 := ⟨by decide +kernel, rfl⟩
theorem dX6_play_30 : Dc cX6_play 30 (.getfield 19) 3 33 := ⟨by decide +kernel, rfl⟩
theorem dX6_play_33 : Dc cX6_play 33 (.aload_n 0) 1 34 := ⟨by decide +kernel, rfl⟩
theorem dX6_play_34 : Dc cX6_play 34 (.getfield 12) 3 37 := ⟨by decide +kernel, rfl⟩
theorem dX6_play_37 : Dc cX6_play 37 (.invokevirtual 67) 3 40 := ⟨by decide +kernel, rfl⟩
theorem dX6_play_40 : Dc cX6_play 40 (.aload_n 0) 1 41 := ⟨by decide +kernel, rfl⟩
theorem dX6_play_41 : Dc cX6_play 41 (.getfield 12) 3 44 := ⟨by decide +kernel, rfl⟩
theorem dX6_play_44 : Dc cX6_play 44 (.aload_n 0) 1 45 := ⟨by decide +kernel, rfl⟩
theorem dX6_play_45 : Dc cX6_play 45 (.getfield 36) 3 48 := ⟨by decide +kernel, rfl⟩
theorem dX6_play_48 : Dc cX6_play 48 (.aload_n 0) 1 49 := ⟨by decide +kernel, rfl⟩
theorem dX6_play_49 : Dc cX6_play 49 (.getfield 12) 3 52 := ⟨by decide +kernel, rfl⟩
theorem dX6_play_52 : Dc cX6_play 52 (.getfield 115) 3 55 := ⟨by decide +kernel, rfl⟩
theorem dX6_play_55 : Dc cX6_play 55 (.iload_n 1) 1 56 := ⟨by decide +kernel, rfl⟩
theorem dX6_play_56 : Dc cX6_play 56 (.invokevirtual 138) 3 59 := ⟨by decide +kernel, rfl⟩
theorem dX6_play_59 : Dc cX6_play 59 (.ireturn) 1 60 := ⟨by decide +kernel, rfl⟩
theorem dX6_type_0 : Dc cX6_type 0 (.aload_n 0) 1 1 := ⟨by decide +kernel, rfl⟩
theorem dX6_type_1 : Dc cX6_type 1 (.getfield 29) 3 4 := ⟨by decide +kernel, rfl⟩
theorem dX6_type_4 : Dc cX6_type 4 (.iload_n 1) 1 5 := ⟨by decide +kernel, rfl⟩
theorem dX6_type_5 : Dc cX6_type 5 (.invokevirtual 142) 3 8 := ⟨by decide +kernel, rfl⟩
theorem dX6_type_8 : Db cX6_type 8 (fun o => .ifCond .eq o) 11 21 := ⟨13, by decide +kernel, rfl, rfl⟩
theorem dX6_type_11 : Dc cX6_type 11 (.aload_n 0) 1 12 := ⟨by decide +kernel, rfl⟩
theorem dX6_type_12 : Dc cX6_type 12 (.getfield 29) 3 15 := ⟨by decide +kernel, rfl⟩
theorem dX6_type_15 : Dc cX6_type 15 (.getfield 145) 3 18 := ⟨by decide +kernel, rfl⟩
theorem dX6_type_18 : Db cX6_type 18 .goto 21 23 := ⟨5, by decide +kernel, rfl, rfl⟩
theorem dX6_type_21 : Dc cX6_type 21 (.bipush (-3)) 2 23 := ⟨by decide +kernel, rfl⟩
theorem dX6_type_23 : Dc cX6_type 23 (.ireturn) 1 24 := ⟨by decide +kernel, rfl⟩
theorem dX6_clearText_0 : Dc cX6_clearText 0 (.aload_n 0) 1 1 := ⟨by decide +kernel, rfl⟩
theorem dX6_clearText_1 : Dc cX6_clearText 1 (.getfield 29) 3 4 := ⟨by decide +kernel, rfl⟩
theorem dX6_clearText_4 : Dc cX6_clearText 4 (.getfield 145) 3 7 := ⟨by decide +kernel, rfl⟩
theorem dX6_clearText_7 : Dc cX6_clearText 7 (.istore_n 1) 1 8 := ⟨by decide +kernel, rfl⟩
theorem dX6_clearText_8 : Dc cX6_clearText 8 (.aload_n 0) 1 9 := ⟨by decide +kernel, rfl⟩
theorem dX6_clearText_9 : Dc cX6_clearText 9 (.getfield 29) 3 12 := ⟨by decide +kernel, rfl⟩
theorem dX6_clearText_12 : Dc cX6_clearText 12 (.iconst 0) 1 13 := ⟨by decide +kernel, rfl⟩
theorem dX6_clearText_13 : Dc cX6_clearText 13 (.putfield 145) 3 16 := ⟨by decide +kernel, rfl⟩
theorem dX6_clearText_16 : Dc cX6_clearText 16 (.iload_n 1) 1 17 := ⟨by decide +kernel, rfl⟩
theorem dX6_clearText_17 : Dc cX6_clearText 17 (.ireturn) 1 18 := ⟨by decide +kernel, rfl⟩
theorem dX6_perform_0 : Dc cX6_perform 0 (.aload_n 0) 1 1 := ⟨by decide +kernel, rfl⟩
theorem dX6_perform_1 : Dc cX6_perform 1 (.getfield 29) 3 4 := ⟨by decide +kernel, rfl⟩
theorem dX6_perform_4 : Dc cX6_perform 4 (.invokevirtual 148) 3 7 := ⟨by decide +kernel, rfl⟩
theorem dX6_perform_7 : Db cX6_perform 7 (fun o => .ifCond .ne o) 10 21 := ⟨14, by decide +kernel, rfl, rfl⟩
theorem dX6_perform_10 : Dc cX6_perform 10 (.bipush (-100)) 2 12 := ⟨by decide +kernel, rfl⟩
theorem dX6_perform_12 : Dc cX6_perform 12 (.aload_n 0) 1 13 := ⟨by decide +kernel, rfl⟩
theorem dX6_perform_13 : Dc cX6_perform 13 (.getfield 29) 3 16 := ⟨by decide +kernel, rfl⟩
theorem dX6_perform_16 : Dc cX6_perform 16 (.getfield 151) 3 19 := ⟨by decide +kernel, rfl⟩
theorem dX6_perform_19 : Dc cX6_perform 19 (.isub) 1 20 := ⟨by decide +kernel, rfl⟩
theorem dX6_perform_20 : Dc cX6_perform 20 (.ireturn) 1 21 := ⟨by decide +kernel, rfl⟩
theorem dX6_perform_21 : Dc cX6_perform 21 (.aload_n 0) 1 22 := ⟨by decide +kernel, rfl⟩
theorem dX6_perform_22 : Dc cX6_perform 22 (.getfield 12) 3 25 := ⟨by decide +kernel, rfl⟩
theorem dX6_perform_25 : Dc cX6_perform 25 (.getfield 59) 3 28 := ⟨by decide +kernel, rfl⟩
theorem dX6_perform_28 : Db cX6_perform 28 (fun o => .ifCond .eq o) 31 34 := ⟨6, by decide +kernel, rfl, rfl⟩
theorem dX6_perform_31 : Dc cX6_perform 31 (.bipush (-4)) 2 33 := ⟨by decide +kernel, rfl⟩
theorem dX6_perform_33 : Dc cX6_perform 33 (.ireturn) 1 34 := ⟨by decide +kernel, rfl⟩
theorem dX6_perform_34 : Dc cX6_perform 34 (.aload_n 0) 1 35 := ⟨by decide +kernel, rfl⟩
theorem dX6_perform_35 : Dc cX6_perform 35 (.getfield 19) 3 38 := ⟨by decide +kernel, rfl⟩
theorem dX6_perform_38 : Dc cX6_perform 38 (.aload_n 0) 1 39 := ⟨by decide +kernel, rfl⟩
theorem dX6_perform_39 : Dc cX6_perform 39 (.getfield 12) 3 42 := ⟨by decide +kernel, rfl⟩
theorem dX6_perform_42 : Dc cX6_perform 42 (.invokevirtual 67) 3 45 := ⟨by decide +kernel, rfl⟩
theorem dX6_perform_45 : Dc cX6_perform 45 (.aload_n 0) 1 46 := ⟨by decide +kernel, rfl⟩
theorem dX6_perform_46 : Dc cX6_perform 46 (.getfield 29) 3 49 := ⟨by decide +kernel, rfl⟩
theorem dX6_perform_49 : Dc cX6_perform 49 (.getfield 154) 3 52 := ⟨by decide +kernel, rfl⟩
theorem dX6_perform_52 : Dc cX6_perform 52 (.astore_n 1) 1 53 := ⟨by decide +kernel, rfl⟩
theorem dX6_perform_53 : Dc cX6_perform 53 (.iconst 0) 1 54 := ⟨by decide +kernel, rfl⟩
theorem dX6_perform_54 : Dc cX6_perform 54 (.istore_n 2) 1 55 := ⟨by decide +kernel, rfl⟩
theorem dX6_perform_55 : Dc cX6_perform 55 (.iconst 0) 1 56 := ⟨by decide +kernel, rfl⟩
theorem dX6_perform_56 : Dc cX6_perform 56 (.istore_n 3) 1 57 := ⟨by decide +kernel, rfl⟩
theorem dX6_perform_57 : Dc cX6_perform 57 (.iload_n 3) 1 58 := ⟨by decide +kernel, rfl⟩
theorem dX6_perform_58 : Dc cX6_perform 58 (.aload_n 1) 1 59 := ⟨by decide +kernel, rfl⟩
theorem dX6_perform_59 : Dc cX6_perform 59 (.getfield 78) 3 62 := ⟨by decide +kernel, rfl⟩
theorem dX6_perform_62 : Db cX6_perform 62 (fun o => .if_icmp .ge o) 65 121 := ⟨59, by decide +kernel, rfl, rfl⟩
theorem dX6_perform_65 : Dc cX6_perform 65 (.aload_n 1) 1 66 := ⟨by decide +kernel, rfl⟩
theorem dX6_perform_66 : Dc cX6_perform 66 (.iload_n 3) 1 67 := ⟨by decide +kernel, rfl⟩
theorem dX6_perform_67 : Dc cX6_perform 67 (.invokevirtual 131) 3 70 := ⟨by decide +kernel, rfl⟩
theorem dX6_perform_70 : Db cX6_perform 70 (fun o => .ifCond .le o) 73 92 := ⟨22, by decide +kernel, rfl, rfl⟩
theorem dX6_perform_73 : Dc cX6_perform 73 (.iload_n 2) 1 74 := ⟨by decide +kernel, rfl⟩
theorem dX6_perform_74 : Dc cX6_perform 74 (.aload_n 0) 1 75 := ⟨by decide +kernel, rfl⟩
theorem dX6_perform_75 : Dc cX6_perform 75 (.getfield 12) 3 78 := ⟨by decide +kernel, rfl⟩
theorem dX6_perform_78 : Dc cX6_perform 78 (.aload_n 0) 1 79 := ⟨by decide +kernel, rfl⟩
theorem dX6_perform_79 : Dc cX6_perform 79 (.getfield 36) 3 82 := ⟨by decide +kernel, rfl⟩
theorem dX6_perform_82 : Dc cX6_perform 82 (.aload_n 1) 1 83 := ⟨by decide +kernel, rfl⟩
theorem dX6_perform_83 : Dc cX6_perform 83 (.iload_n 3) 1 84 := ⟨by decide +kernel, rfl⟩
theorem dX6_perform_84 : Dc cX6_perform 84 (.invokevirtual 138) 3 87 := ⟨by decide +kernel, rfl⟩
theorem dX6_perform_87 : Dc cX6_perform 87 (.iadd) 1 88 := ⟨by decide +kernel, rfl⟩
theorem dX6_perform_88 : Dc cX6_perform 88 (.istore_n 2) 1 89 := ⟨by decide +kernel, rfl⟩
theorem dX6_perform_89 : Db cX6_perform 89 .goto 92 115 := ⟨26, by decide +kernel, rfl, rfl⟩
theorem dX6_perform_92 : Dc cX6_perform 92 (.aload_n 0) 1 93 := ⟨by decide +kernel, rfl⟩
theorem dX6_perform_93 : Dc cX6_perform 93 (.getfield 12) 3 96 := ⟨by decide +kernel, rfl⟩
theorem dX6_perform_96 : Dc cX6_perform 96 (.aload_n 1) 1 97 := ⟨by decide +kernel, rfl⟩
theorem dX6_perform_97 : Dc cX6_perform 97 (.iload_n 3) 1 98 := ⟨by decide +kernel, rfl⟩
theorem dX6_perform_98 : Dc cX6_perform 98 (.iconst 0) 1 99 := ⟨by decide +kernel, rfl⟩
theorem dX6_perform_99 : Dc cX6_perform 99 (.invokevirtual 157) 3 102 := ⟨by decide +kernel, rfl⟩
theorem dX6_perform_102 : Dc cX6_perform 102 (.aload_n 1) 1 103 := ⟨by decide +kernel, rfl⟩
theorem dX6_perform_103 : Dc cX6_perform 103 (.iload_n 3) 1 104 := ⟨by decide +kernel, rfl⟩
theorem dX6_perform_104 : Dc cX6_perform 104 (.iconst 0) 1 105 := ⟨by decide +kernel, rfl⟩
theorem dX6_perform_105 : Dc cX6_perform 105 (.invokevirtual 161) 3 108 := ⟨by decide +kernel, rfl⟩
theorem dX6_perform_108 : Dc cX6_perform 108 (.invokevirtual 71) 3 111 := ⟨by decide +kernel, rfl⟩
theorem dX6_perform_111 : Dc cX6_perform 111 (.pop) 1 112 := ⟨by decide +kernel, rfl⟩
theorem dX6_perform_112 : Dc cX6_perform 112 (.iinc 2 1) 3 115 := ⟨by decide +kernel, rfl⟩
theorem dX6_perform_115 : Dc cX6_perform 115 (.iinc 3 1) 3 118 := ⟨by decide +kernel, rfl⟩
theorem dX6_perform_118 : Db cX6_perform 118 .goto 121 57 := ⟨-61, by decide +kernel, rfl, rfl⟩
theorem dX6_perform_121 : Dc cX6_perform 121 (.iload_n 2) 1 122 := ⟨by decide +kernel, rfl⟩
theorem dX6_perform_122 : Dc cX6_perform 122 (.ireturn) 1 123 := ⟨by decide +kernel, rfl⟩
theorem dX6_undo_0 : Dc cX6_undo 0 (.aload_n 0) 1 1 := ⟨by decide +kernel, rfl⟩
theorem dX6_undo_1 : Dc cX6_undo 1 (.getfield 19) 3 4 := ⟨by decide +kernel, rfl⟩
theorem dX6_undo_4 : Dc cX6_undo 4 (.aload_n 0) 1 5 := ⟨by decide +kernel, rfl⟩
theorem dX6_undo_5 : Dc cX6_undo 5 (.getfield 12) 3 8 := ⟨by decide +kernel, rfl⟩
theorem dX6_undo_8 : Dc cX6_undo 8 (.invokevirtual 164) 3 11 := ⟨by decide +kernel, rfl⟩
theorem dX6_undo_11 : Db cX6_undo 11 (fun o => .ifCond .eq o) 14 24 := ⟨13, by decide +kernel, rfl, rfl⟩
theorem dX6_undo_14 : Dc cX6_undo 14 (.aload_n 0) 1 15 := ⟨by decide +kernel, rfl⟩
theorem dX6_undo_15 : Dc cX6_undo 15 (.getfield 19) 3 18 := ⟨by decide +kernel, rfl⟩
theorem dX6_undo_18 : Dc cX6_undo 18 (.getfield 168) 3 21 := ⟨by decide +kernel, rfl⟩
theorem dX6_undo_21 : Db cX6_undo 21 .goto 24 26 := ⟨5, by decide +kernel, rfl, rfl⟩
theorem dX6_undo_24 : Dc cX6_undo 24 (.bipush (-5)) 2 26 := ⟨by decide +kernel, rfl⟩
theorem dX6_undo_26 : Dc cX6_undo 26 (.ireturn) 1 27 := ⟨by decide +kernel, rfl⟩
theorem dX6_keep_0 : Dc cX6_keep 0 (.aload_n 0) 1 1 := ⟨by decide +kernel, rfl⟩
theorem dX6_keep_1 : Dc cX6_keep 1 (.getfield 23) 3 4 := ⟨by decide +kernel, rfl⟩
theorem dX6_keep_4 : Dc cX6_keep 4 (.aload_n 0) 1 5 := ⟨by decide +kernel, rfl⟩
theorem dX6_keep_5 : Dc cX6_keep 5 (.getfield 12) 3 8 := ⟨by decide +kernel, rfl⟩
theorem dX6_keep_8 : Dc cX6_keep 8 (.invokevirtual 169) 3 11 := ⟨by decide +kernel, rfl⟩
theorem dX6_keep_11 : Dc cX6_keep 11 (.aload_n 0) 1 12 := ⟨by decide +kernel, rfl⟩
theorem dX6_keep_12 : Dc cX6_keep 12 (.iconst 1) 1 13 := ⟨by decide +kernel, rfl⟩
theorem dX6_keep_13 : Dc cX6_keep 13 (.putfield 172) 3 16 := ⟨by decide +kernel, rfl⟩
theorem dX6_keep_16 : Dc cX6_keep 16 (.aload_n 0) 1 17 := ⟨by decide +kernel, rfl⟩
theorem dX6_keep_17 : Dc cX6_keep 17 (.getfield 12) 3 20 := ⟨by decide +kernel, rfl⟩
theorem dX6_keep_20 : Dc cX6_keep 20 (.getfield 74) 3 23 := ⟨by decide +kernel, rfl⟩
theorem dX6_keep_23 : Dc cX6_keep 23 (.getfield 78) 3 26 := ⟨by decide +kernel, rfl⟩
theorem dX6_keep_26 : Dc cX6_keep 26 (.ireturn) 1 27 := ⟨by decide +kernel, rfl⟩
theorem dX6_restore_0 : Dc cX6_restore 0 (.aload_n 0) 1 1 := ⟨by decide +kernel, rfl⟩
theorem dX6_restore_1 : Dc cX6_restore 1 (.getfield 172) 3 4 := ⟨by decide +kernel, rfl⟩
theorem dX6_restore_4 : Db cX6_restore 4 (fun o => .ifCond .ne o) 7 10 := ⟨6, by decide +kernel, rfl, rfl⟩
theorem dX6_restore_7 : Dc cX6_restore 7 (.bipush (-5)) 2 9 := ⟨by decide +kernel, rfl⟩
theorem dX6_restore_9 : Dc cX6_restore 9 (.ireturn) 1 10 := ⟨by decide +kernel, rfl⟩
theorem dX6_restore_10 : Dc cX6_restore 10 (.aload_n 0) 1 11 := ⟨by decide +kernel, rfl⟩
theorem dX6_restore_11 : Dc cX6_restore 11 (.getfield 19) 3 14 := ⟨by decide +kernel, rfl⟩
theorem dX6_restore_14 : Dc cX6_restore 14 (.aload_n 0) 1 15 := ⟨by decide +kernel, rfl⟩
theorem dX6_restore_15 : Dc cX6_restore 15 (.getfield 12) 3 18 := ⟨by decide +kernel, rfl⟩
theorem dX6_restore_18 : Dc cX6_restore 18 (.invokevirtual 67) 3 21 := ⟨by decide +kernel, rfl⟩
theorem dX6_restore_21 : Dc cX6_restore 21 (.aload_n 0) 1 22 := ⟨by decide +kernel, rfl⟩
theorem dX6_restore_22 : Dc cX6_restore 22 (.getfield 12) 3 25 := ⟨by decide +kernel, rfl⟩
theorem dX6_restore_25 : Dc cX6_restore 25 (.aload_n 0) 1 26 := ⟨by decide +kernel, rfl⟩
theorem dX6_restore_26 : Dc cX6_restore 26 (.getfield 23) 3 29 := ⟨by decide +kernel, rfl⟩
theorem dX6_restore_29 : Dc cX6_restore 29 (.invokevirtual 169) 3 32 := ⟨by decide +kernel, rfl⟩
theorem dX6_restore_32 : Dc cX6_restore 32 (.aload_n 0) 1 33 := ⟨by decide +kernel, rfl⟩
theorem dX6_restore_33 : Dc cX6_restore 33 (.getfield 12) 3 36 := ⟨by decide +kernel, rfl⟩
theorem dX6_restore_36 : Dc cX6_restore 36 (.getfield 74) 3 39 := ⟨by decide +kernel, rfl⟩
theorem dX6_restore_39 : Dc cX6_restore 39 (.getfield 78) 3 42 := ⟨by decide +kernel, rfl⟩
theorem dX6_restore_42 : Dc cX6_restore 42 (.ireturn) 1 43 := ⟨by decide +kernel, rfl⟩
theorem dX6_cell_0 : Dc cX6_cell 0 (.iload_n 1) 1 1 := ⟨by decide +kernel, rfl⟩
theorem dX6_cell_1 : Dc cX6_cell 1 (.invokestatic 175) 3 4 := ⟨by decide +kernel, rfl⟩
theorem dX6_cell_4 : Db cX6_cell 4 (fun o => .ifCond .eq o) 7 21 := ⟨17, by decide +kernel, rfl, rfl⟩
theorem dX6_cell_7 : Dc cX6_cell 7 (.aload_n 0) 1 8 := ⟨by decide +kernel, rfl⟩
theorem dX6_cell_8 : Dc cX6_cell 8 (.getfield 12) 3 11 := ⟨by decide +kernel, rfl⟩
theorem dX6_cell_11 : Dc cX6_cell 11 (.getfield 88) 3 14 := ⟨by decide +kernel, rfl⟩
theorem dX6_cell_14 : Dc cX6_cell 14 (.iload_n 1) 1 15 := ⟨by decide +kernel, rfl⟩
theorem dX6_cell_15 : Dc cX6_cell 15 (.invokevirtual 178) 3 18 := ⟨by decide +kernel, rfl⟩
theorem dX6_cell_18 : Db cX6_cell 18 .goto 21 22 := ⟨4, by decide +kernel, rfl, rfl⟩
theorem dX6_cell_21 : Dc cX6_cell 21 (.iconst (-1)) 1 22 := ⟨by decide +kernel, rfl⟩
theorem dX6_cell_22 : Dc cX6_cell 22 (.ireturn) 1 23 := ⟨by decide +kernel, rfl⟩
theorem dX6_ofTry_0 : Dc cX6_ofTry 0 (.aload_n 0) 1 1 := ⟨by decide +kernel, rfl⟩
theorem dX6_ofTry_1 : Dc cX6_ofTry 1 (.getfield 12) 3 4 := ⟨by decide +kernel, rfl⟩
theorem dX6_ofTry_4 : Dc cX6_ofTry 4 (.getfield 59) 3 7 := ⟨by decide +kernel, rfl⟩
theorem dX6_ofTry_7 : Db cX6_ofTry 7 (fun o => .ifCond .eq o) 10 28 := ⟨21, by decide +kernel, rfl, rfl⟩
theorem dX6_ofTry_10 : Dc cX6_ofTry 10 (.iload_n 1) 1 11 := ⟨by decide +kernel, rfl⟩
theorem dX6_ofTry_11 : Dc cX6_ofTry 11 (.aload_n 0) 1 12 := ⟨by decide +kernel, rfl⟩
theorem dX6_ofTry_12 : Dc cX6_ofTry 12 (.getfield 12) 3 15 := ⟨by decide +kernel, rfl⟩
theorem dX6_ofTry_15 : Dc cX6_ofTry 15 (.getfield 74) 3 18 := ⟨by decide +kernel, rfl⟩
theorem dX6_ofTry_18 : Dc cX6_ofTry 18 (.getfield 78) 3 21 := ⟨by decide +kernel, rfl⟩
theorem dX6_ofTry_21 : Db cX6_ofTry 21 (fun o => .if_icmp .ne o) 24 28 := ⟨7, by decide +kernel, rfl, rfl⟩
theorem dX6_ofTry_24 : Dc cX6_ofTry 24 (.iconst 1) 1 25 := ⟨by decide +kernel, rfl⟩
theorem dX6_ofTry_25 : Db cX6_ofTry 25 .goto 28 29 := ⟨4, by decide +kernel, rfl, rfl⟩
theorem dX6_ofTry_28 : Dc cX6_ofTry 28 (.iconst 0) 1 29 := ⟨by decide +kernel, rfl⟩
theorem dX6_ofTry_29 : Dc cX6_ofTry 29 (.istore 4) 2 31 := ⟨by decide +kernel, rfl⟩
theorem dX6_ofTry_31 : Dc cX6_ofTry 31 (.iload 4) 2 33 := ⟨by decide +kernel, rfl⟩
theorem dX6_ofTry_33 : Db cX6_ofTry 33 (fun o => .ifCond .ne o) 36 52 := ⟨19, by decide +kernel, rfl, rfl⟩
theorem dX6_ofTry_36 : Dc cX6_ofTry 36 (.aload_n 0) 1 37 := ⟨by decide +kernel, rfl⟩
theorem dX6_ofTry_37 : Dc cX6_ofTry 37 (.getfield 12) 3 40 := ⟨by decide +kernel, rfl⟩
theorem dX6_ofTry_40 : Dc cX6_ofTry 40 (.getfield 74) 3 43 := ⟨by decide +kernel, rfl⟩
theorem dX6_ofTry_43 : Dc cX6_ofTry 43 (.iload_n 1) 1 44 := ⟨by decide +kernel, rfl⟩
theorem dX6_ofTry_44 : Dc cX6_ofTry 44 (.invokevirtual 105) 3 47 := ⟨by decide +kernel, rfl⟩
theorem dX6_ofTry_47 : Db cX6_ofTry 47 (fun o => .ifCond .ne o) 50 52 := ⟨5, by decide +kernel, rfl, rfl⟩
theorem dX6_ofTry_50 : Dc cX6_ofTry 50 (.iconst (-1)) 1 51 := ⟨by decide +kernel, rfl⟩
theorem dX6_ofTry_51 : Dc cX6_ofTry 51 (.ireturn) 1 52 := ⟨by decide +kernel, rfl⟩
theorem dX6_ofTry_52 : Dc cX6_ofTry 52 (.aload_n 0) 1 53 := ⟨by decide +kernel, rfl⟩
theorem dX6_ofTry_53 : Dc cX6_ofTry 53 (.getfield 12) 3 56 := ⟨by decide +kernel, rfl⟩
theorem dX6_ofTry_56 : Dc cX6_ofTry 56 (.getfield 74) 3 59 := ⟨by decide +kernel, rfl⟩
theorem dX6_ofTry_59 : Dc cX6_ofTry 59 (.iload_n 1) 1 60 := ⟨by decide +kernel, rfl⟩
theorem dX6_ofTry_60 : Dc cX6_ofTry 60 (.iload_n 2) 1 61 := ⟨by decide +kernel, rfl⟩
theorem dX6_ofTry_61 : Dc cX6_ofTry 61 (.invokevirtual 181) 3 64 := ⟨by decide +kernel, rfl⟩
theorem dX6_ofTry_64 : Db cX6_ofTry 64 (fun o => .ifCond .ne o) 67 69 := ⟨5, by decide +kernel, rfl, rfl⟩
theorem dX6_ofTry_67 : Dc cX6_ofTry 67 (.iconst (-1)) 1 68 := ⟨by decide +kernel, rfl⟩
theorem dX6_ofTry_68 : Dc cX6_ofTry 68 (.ireturn) 1 69 := ⟨by decide +kernel, rfl⟩
theorem dX6_ofTry_69 : Dc cX6_ofTry 69 (.iload_n 3) 1 70 := ⟨by decide +kernel, rfl⟩
theorem dX6_ofTry_70 : decode cX6_ofTry 70 = .ok (.lookupswitch 52 #[(0, 26), (1, 39)], 26) := by decide +kernel
theorem dX6_ofTry_96 : Dc cX6_ofTry 96 (.aload_n 0) 1 97 := ⟨by decide +kernel, rfl⟩
theorem dX6_ofTry_97 : Dc cX6_ofTry 97 (.getfield 12) 3 100 := ⟨by decide +kernel, rfl⟩
theorem dX6_ofTry_100 : Dc cX6_ofTry 100 (.getfield 74) 3 103 := ⟨by decide +kernel, rfl⟩
theorem dX6_ofTry_103 : Dc cX6_ofTry 103 (.iload_n 1) 1 104 := ⟨by decide +kernel, rfl⟩
theorem dX6_ofTry_104 : Dc cX6_ofTry 104 (.iload_n 2) 1 105 := ⟨by decide +kernel, rfl⟩
theorem dX6_ofTry_105 : Dc cX6_ofTry 105 (.invokevirtual 157) 3 108 := ⟨by decide +kernel, rfl⟩
theorem dX6_ofTry_108 : Dc cX6_ofTry 108 (.ireturn) 1 109 := ⟨by decide +kernel, rfl⟩
theorem dX6_ofTry_109 : Dc cX6_ofTry 109 (.aload_n 0) 1 110 := ⟨by decide +kernel, rfl⟩
theorem dX6_ofTry_110 : Dc cX6_ofTry 110 (.getfield 12) 3 113 := ⟨by decide +kernel, rfl⟩
theorem dX6_ofTry_113 : Dc cX6_ofTry 113 (.getfield 74) 3 116 := ⟨by decide +kernel, rfl⟩
theorem dX6_ofTry_116 : Dc cX6_ofTry 116 (.iload_n 1) 1 117 := ⟨by decide +kernel, rfl⟩
theorem dX6_ofTry_117 : Dc cX6_ofTry 117 (.iload_n 2) 1 118 := ⟨by decide +kernel, rfl⟩
theorem dX6_ofTry_118 : Dc cX6_ofTry 118 (.invokevirtual 161) 3 121 := ⟨by decide +kernel, rfl⟩
theorem dX6_ofTry_121 : Dc cX6_ofTry 121 (.ireturn) 1 122 := ⟨by decide +kernel, rfl⟩
theorem dX6_ofTry_122 : Dc cX6_ofTry 122 (.bipush (-2)) 2 124 := ⟨by decide +kernel, rfl⟩
theorem dX6_ofTry_124 : Dc cX6_ofTry 124 (.ireturn) 1 125 := ⟨by decide +kernel, rfl⟩
theorem dX6_ofLoop_0 : Dc cX6_ofLoop 0 (.aload_n 0) 1 1 := ⟨by decide +kernel, rfl⟩
theorem dX6_ofLoop_1 : Dc cX6_ofLoop 1 (.getfield 12) 3 4 := ⟨by decide +kernel, rfl⟩
theorem dX6_ofLoop_4 : Dc cX6_ofLoop 4 (.getfield 115) 3 7 := ⟨by decide +kernel, rfl⟩
theorem dX6_ofLoop_7 : Dc cX6_ofLoop 7 (.astore 4) 2 9 := ⟨by decide +kernel, rfl⟩
theorem dX6_ofLoop_9 : Dc cX6_ofLoop 9 (.aload 4) 2 11 := ⟨by decide +kernel, rfl⟩
theorem dX6_ofLoop_11 : Dc cX6_ofLoop 11 (.iload_n 1) 1 12 := ⟨by decide +kernel, rfl⟩
theorem dX6_ofLoop_12 : Dc cX6_ofLoop 12 (.invokevirtual 105) 3 15 := ⟨by decide +kernel, rfl⟩
theorem dX6_ofLoop_15 : Db cX6_ofLoop 15 (fun o => .ifCond .eq o) 18 28 := ⟨13, by decide +kernel, rfl, rfl⟩
theorem dX6_ofLoop_18 : Dc cX6_ofLoop 18 (.aload 4) 2 20 := ⟨by decide +kernel, rfl⟩
theorem dX6_ofLoop_20 : Dc cX6_ofLoop 20 (.iload_n 1) 1 21 := ⟨by decide +kernel, rfl⟩
theorem dX6_ofLoop_21 : Dc cX6_ofLoop 21 (.iload_n 2) 1 22 := ⟨by decide +kernel, rfl⟩
theorem dX6_ofLoop_22 : Dc cX6_ofLoop 22 (.invokevirtual 181) 3 25 := ⟨by decide +kernel, rfl⟩
theorem dX6_ofLoop_25 : Db cX6_ofLoop 25 (fun o => .ifCond .ne o) 28 30 := ⟨5, by decide +kernel, rfl, rfl⟩
theorem dX6_ofLoop_28 : Dc cX6_ofLoop 28 (.iconst (-1)) 1 29 := ⟨by decide +kernel, rfl⟩
theorem dX6_ofLoop_29 : Dc cX6_ofLoop 29 (.ireturn) 1 30 := ⟨by decide +kernel, rfl⟩
theorem dX6_ofLoop_30 : Dc cX6_ofLoop 30 (.iload_n 3) 1 31 := ⟨by decide +kernel, rfl⟩
theorem dX6_ofLoop_31 : decode cX6_ofLoop 31 = .ok (.tableswitch 77 0 3 #[29, 37, 45, 57], 29) := by decide +kernel
theorem dX6_ofLoop_60 : Dc cX6_ofLoop 60 (.aload 4) 2 62 := ⟨by decide +kernel, rfl⟩
theorem dX6_ofLoop_62 : Dc cX6_ofLoop 62 (.iload_n 1) 1 63 := ⟨by decide +kernel, rfl⟩
theorem dX6_ofLoop_63 : Dc cX6_ofLoop 63 (.iload_n 2) 1 64 := ⟨by decide +kernel, rfl⟩
theorem dX6_ofLoop_64 : Dc cX6_ofLoop 64 (.invokevirtual 157) 3 67 := ⟨by decide +kernel, rfl⟩
theorem dX6_ofLoop_67 : Dc cX6_ofLoop 67 (.ireturn) 1 68 := ⟨by decide +kernel, rfl⟩
theorem dX6_ofLoop_68 : Dc cX6_ofLoop 68 (.aload 4) 2 70 := ⟨by decide +kernel, rfl⟩
theorem dX6_ofLoop_70 : Dc cX6_ofLoop 70 (.iload_n 1) 1 71 := ⟨by decide +kernel, rfl⟩
theorem dX6_ofLoop_71 : Dc cX6_ofLoop 71 (.iload_n 2) 1 72 := ⟨by decide +kernel, rfl⟩
theorem dX6_ofLoop_72 : Dc cX6_ofLoop 72 (.invokevirtual 161) 3 75 := ⟨by decide +kernel, rfl⟩
theorem dX6_ofLoop_75 : Dc cX6_ofLoop 75 (.ireturn) 1 76 := ⟨by decide +kernel, rfl⟩
theorem dX6_ofLoop_76 : Dc cX6_ofLoop 76 (.aload 4) 2 78 := ⟨by decide +kernel, rfl⟩
theorem dX6_ofLoop_78 : Dc cX6_ofLoop 78 (.iload_n 1) 1 79 := ⟨by decide +kernel, rfl⟩
theorem dX6_ofLoop_79 : Dc cX6_ofLoop 79 (.iload_n 2) 1 80 := ⟨by decide +kernel, rfl⟩
theorem dX6_ofLoop_80 : Dc cX6_ofLoop 80 (.invokevirtual 184) 3 83 := ⟨by decide +kernel, rfl⟩
theorem dX6_ofLoop_83 : Dc cX6_ofLoop 83 (.sipush 1000) 3 86 := ⟨by decide +kernel, rfl⟩
theorem dX6_ofLoop_86 : Dc cX6_ofLoop 86 (.iadd) 1 87 := ⟨by decide +kernel, rfl⟩
theorem dX6_ofLoop_87 : Dc cX6_ofLoop 87 (.ireturn) 1 88 := ⟨by decide +kernel, rfl⟩
theorem dX6_ofLoop_88 : Dc cX6_ofLoop 88 (.aload 4) 2 90 := ⟨by decide +kernel, rfl⟩
theorem dX6_ofLoop_90 : Dc cX6_ofLoop 90 (.iload_n 1) 1 91 := ⟨by decide +kernel, rfl⟩
theorem dX6_ofLoop_91 : Dc cX6_ofLoop 91 (.iload_n 2) 1 92 := ⟨by decide +kernel, rfl⟩
theorem dX6_ofLoop_92 : Dc cX6_ofLoop 92 (.aload 4) 2 94 := ⟨by decide +kernel, rfl⟩
theorem dX6_ofLoop_94 : Dc cX6_ofLoop 94 (.iload_n 1) 1 95 := ⟨by decide +kernel, rfl⟩
theorem dX6_ofLoop_95 : Dc cX6_ofLoop 95 (.invokevirtual 131) 3 98 := ⟨by decide +kernel, rfl⟩
theorem dX6_ofLoop_98 : Dc cX6_ofLoop 98 (.iconst 1) 1 99 := ⟨by decide +kernel, rfl⟩
theorem dX6_ofLoop_99 : Dc cX6_ofLoop 99 (.isub) 1 100 := ⟨by decide +kernel, rfl⟩
theorem dX6_ofLoop_100 : Dc cX6_ofLoop 100 (.invokevirtual 187) 3 103 := ⟨by decide +kernel, rfl⟩
theorem dX6_ofLoop_103 : Dc cX6_ofLoop 103 (.sipush 10000) 3 106 := ⟨by decide +kernel, rfl⟩
theorem dX6_ofLoop_106 : Dc cX6_ofLoop 106 (.iadd) 1 107 := ⟨by decide +kernel, rfl⟩
theorem dX6_ofLoop_107 : Dc cX6_ofLoop 107 (.ireturn) 1 108 := ⟨by decide +kernel, rfl⟩
theorem dX6_ofLoop_108 : Dc cX6_ofLoop 108 (.bipush (-2)) 2 110 := ⟨by decide +kernel, rfl⟩
theorem dX6_ofLoop_110 : Dc cX6_ofLoop 110 (.ireturn) 1 111 := ⟨by decide +kernel, rfl⟩
theorem dX6_length_0 : Dc cX6_length 0 (.iload_n 2) 1 1 := ⟨by decide +kernel, rfl⟩
theorem dX6_length_1 : decode cX6_length 1 = .ok (.tableswitch 117 0 2 #[27, 57, 87], 27) := by decide +kernel
theorem dX6_length_28 : Dc cX6_length 28 (.aload_n 0) 1 29 := ⟨by decide +kernel, rfl⟩
theorem dX6_length_29 : Dc cX6_length 29 (.getfield 12) 3 32 := ⟨by decide +kernel, rfl⟩
theorem dX6_length_32 : Dc cX6_length 32 (.getfield 74) 3 35 := ⟨by decide +kernel, rfl⟩
theorem dX6_length_35 : Dc cX6_length 35 (.iload_n 1) 1 36 := ⟨by decide +kernel, rfl⟩
theorem dX6_length_36 : Dc cX6_length 36 (.invokevirtual 105) 3 39 := ⟨by decide +kernel, rfl⟩
theorem dX6_length_39 : Db cX6_length 39 (fun o => .ifCond .eq o) 42 56 := ⟨17, by decide +kernel, rfl, rfl⟩
theorem dX6_length_42 : Dc cX6_length 42 (.aload_n 0) 1 43 := ⟨by decide +kernel, rfl⟩
theorem dX6_length_43 : Dc cX6_length 43 (.getfield 12) 3 46 := ⟨by decide +kernel, rfl⟩
theorem dX6_length_46 : Dc cX6_length 46 (.getfield 74) 3 49 := ⟨by decide +kernel, rfl⟩
theorem dX6_length_49 : Dc cX6_length 49 (.iload_n 1) 1 50 := ⟨by decide +kernel, rfl⟩
theorem dX6_length_50 : Dc cX6_length 50 (.invokevirtual 118) 3 53 := ⟨by decide +kernel, rfl⟩
theorem dX6_length_53 : Db cX6_length 53 .goto 56 57 := ⟨4, by decide +kernel, rfl, rfl⟩
theorem dX6_length_56 : Dc cX6_length 56 (.iconst (-1)) 1 57 := ⟨by decide +kernel, rfl⟩
theorem dX6_length_57 : Dc cX6_length 57 (.ireturn) 1 58 := ⟨by decide +kernel, rfl⟩
theorem dX6_length_58 : Dc cX6_length 58 (.aload_n 0) 1 59 := ⟨by decide +kernel, rfl⟩
theorem dX6_length_59 : Dc cX6_length 59 (.getfield 12) 3 62 := ⟨by decide +kernel, rfl⟩
theorem dX6_length_62 : Dc cX6_length 62 (.getfield 115) 3 65 := ⟨by decide +kernel, rfl⟩
theorem dX6_length_65 : Dc cX6_length 65 (.iload_n 1) 1 66 := ⟨by decide +kernel, rfl⟩
theorem dX6_length_66 : Dc cX6_length 66 (.invokevirtual 105) 3 69 := ⟨by decide +kernel, rfl⟩
theorem dX6_length_69 : Db cX6_length 69 (fun o => .ifCond .eq o) 72 86 := ⟨17, by decide +kernel, rfl, rfl⟩
theorem dX6_length_72 : Dc cX6_length 72 (.aload_n 0) 1 73 := ⟨by decide +kernel, rfl⟩
theorem dX6_length_73 : Dc cX6_length 73 (.getfield 12) 3 76 := ⟨by decide +kernel, rfl⟩
theorem dX6_length_76 : Dc cX6_length 76 (.getfield 115) 3 79 := ⟨by decide +kernel, rfl⟩
theorem dX6_length_79 : Dc cX6_length 79 (.iload_n 1) 1 80 := ⟨by decide +kernel, rfl⟩
theorem dX6_length_80 : Dc cX6_length 80 (.invokevirtual 118) 3 83 := ⟨by decide +kernel, rfl⟩
theorem dX6_length_83 : Db cX6_length 83 .goto 86 87 := ⟨4, by decide +kernel, rfl, rfl⟩
theorem dX6_length_86 : Dc cX6_length 86 (.iconst (-1)) 1 87 := ⟨by decide +kernel, rfl⟩
theorem dX6_length_87 : Dc cX6_length 87 (.ireturn) 1 88 := ⟨by decide +kernel, rfl⟩
theorem dX6_length_88 : Dc cX6_length 88 (.aload_n 0) 1 89 := ⟨by decide +kernel, rfl⟩
theorem dX6_length_89 : Dc cX6_length 89 (.getfield 12) 3 92 := ⟨by decide +kernel, rfl⟩
theorem dX6_length_92 : Dc cX6_length 92 (.getfield 115) 3 95 := ⟨by decide +kernel, rfl⟩
theorem dX6_length_95 : Dc cX6_length 95 (.iload_n 1) 1 96 := ⟨by decide +kernel, rfl⟩
theorem dX6_length_96 : Dc cX6_length 96 (.invokevirtual 105) 3 99 := ⟨by decide +kernel, rfl⟩
theorem dX6_length_99 : Db cX6_length 99 (fun o => .ifCond .eq o) 102 116 := ⟨17, by decide +kernel, rfl, rfl⟩
theorem dX6_length_102 : Dc cX6_length 102 (.aload_n 0) 1 103 := ⟨by decide +kernel, rfl⟩
theorem dX6_length_103 : Dc cX6_length 103 (.getfield 12) 3 106 := ⟨by decide +kernel, rfl⟩
theorem dX6_length_106 : Dc cX6_length 106 (.getfield 115) 3 109 := ⟨by decide +kernel, rfl⟩
theorem dX6_length_109 : Dc cX6_length 109 (.iload_n 1) 1 110 := ⟨by decide +kernel, rfl⟩
theorem dX6_length_110 : Dc cX6_length 110 (.invokevirtual 131) 3 113 := ⟨by decide +kernel, rfl⟩
theorem dX6_length_113 : Db cX6_length 113 .goto 116 117 := ⟨4, by decide +kernel, rfl, rfl⟩
theorem dX6_length_116 : Dc cX6_length 116 (.iconst (-1)) 1 117 := ⟨by decide +kernel, rfl⟩
theorem dX6_length_117 : Dc cX6_length 117 (.ireturn) 1 118 := ⟨by decide +kernel, rfl⟩
theorem dX6_length_118 : Dc cX6_length 118 (.bipush (-2)) 2 120 := ⟨by decide +kernel, rfl⟩
theorem dX6_length_120 : Dc cX6_length 120 (.ireturn) 1 121 := ⟨by decide +kernel, rfl⟩
theorem dX6_total_0 : Dc cX6_total 0 (.iload_n 1) 1 1 := ⟨by decide +kernel, rfl⟩
theorem dX6_total_1 : decode cX6_total 1 = .ok (.tableswitch 183 0 11 #[63, 74, 85, 96, 119, 130, 138, 146, 154, 162, 167, 175], 63) := by decide +kernel
theorem dX6_total_64 : Dc cX6_total 64 (.aload_n 0) 1 65 := ⟨by decide +kernel, rfl⟩
theorem dX6_total_65 : Dc cX6_total 65 (.getfield 12) 3 68 := ⟨by decide +kernel, rfl⟩
theorem dX6_total_68 : Dc cX6_total 68 (.getfield 88) 3 71 := ⟨by decide +kernel, rfl⟩
theorem dX6_total_71 : Dc cX6_total 71 (.getfield 191) 3 74 := ⟨by decide +kernel, rfl⟩
theorem dX6_total_74 : Dc cX6_total 74 (.ireturn) 1 75 := ⟨by decide +kernel, rfl⟩
theorem dX6_total_75 : Dc cX6_total 75 (.aload_n 0) 1 76 := ⟨by decide +kernel, rfl⟩
theorem dX6_total_76 : Dc cX6_total 76 (.getfield 12) 3 79 := ⟨by decide +kernel, rfl⟩
theorem dX6_total_79 : Dc cX6_total 79 (.getfield 88) 3 82 := ⟨by decide +kernel, rfl⟩
theorem dX6_total_82 : Dc cX6_total 82 (.invokevirtual 194) 3 85 := ⟨by decide +kernel, rfl⟩
theorem dX6_total_85 : Dc cX6_total 85 (.ireturn) 1 86 := ⟨by decide +kernel, rfl⟩
theorem dX6_total_86 : Dc cX6_total 86 (.aload_n 0) 1 87 := ⟨by decide +kernel, rfl⟩
theorem dX6_total_87 : Dc cX6_total 87 (.getfield 12) 3 90 := ⟨by decide +kernel, rfl⟩
theorem dX6_total_90 : Dc cX6_total 90 (.getfield 74) 3 93 := ⟨by decide +kernel, rfl⟩
theorem dX6_total_93 : Dc cX6_total 93 (.getfield 78) 3 96 := ⟨by decide +kernel, rfl⟩
theorem dX6_total_96 : Dc cX6_total 96 (.ireturn) 1 97 := ⟨by decide +kernel, rfl⟩
theorem dX6_total_97 : Dc cX6_total 97 (.aload_n 0) 1 98 := ⟨by decide +kernel, rfl⟩
theorem dX6_total_98 : Dc cX6_total 98 (.getfield 12) 3 101 := ⟨by decide +kernel, rfl⟩
theorem dX6_total_101 : Dc cX6_total 101 (.getfield 59) 3 104 := ⟨by decide +kernel, rfl⟩
theorem dX6_total_104 : Db cX6_total 104 (fun o => .ifCond .eq o) 107 117 := ⟨13, by decide +kernel, rfl, rfl⟩
theorem dX6_total_107 : Dc cX6_total 107 (.aload_n 0) 1 108 := ⟨by decide +kernel, rfl⟩
theorem dX6_total_108 : Dc cX6_total 108 (.getfield 12) 3 111 := ⟨by decide +kernel, rfl⟩
theorem dX6_total_111 : Dc cX6_total 111 (.invokevirtual 63) 3 114 := ⟨by decide +kernel, rfl⟩
theorem dX6_total_114 : Db cX6_total 114 .goto 117 119 := ⟨5, by decide +kernel, rfl, rfl⟩
theorem dX6_total_117 : Dc cX6_total 117 (.bipush (-5)) 2 119 := ⟨by decide +kernel, rfl⟩
theorem dX6_total_119 : Dc cX6_total 119 (.ireturn) 1 120 := ⟨by decide +kernel, rfl⟩
theorem dX6_total_120 : Dc cX6_total 120 (.aload_n 0) 1 121 := ⟨by decide +kernel, rfl⟩
theorem dX6_total_121 : Dc cX6_total 121 (.getfield 12) 3 124 := ⟨by decide +kernel, rfl⟩
theorem dX6_total_124 : Dc cX6_total 124 (.getfield 115) 3 127 := ⟨by decide +kernel, rfl⟩
theorem dX6_total_127 : Dc cX6_total 127 (.getfield 78) 3 130 := ⟨by decide +kernel, rfl⟩
theorem dX6_total_130 : Dc cX6_total 130 (.ireturn) 1 131 := ⟨by decide +kernel, rfl⟩
theorem dX6_total_131 : Dc cX6_total 131 (.aload_n 0) 1 132 := ⟨by decide +kernel, rfl⟩
theorem dX6_total_132 : Dc cX6_total 132 (.getfield 12) 3 135 := ⟨by decide +kernel, rfl⟩
theorem dX6_total_135 : Dc cX6_total 135 (.getfield 197) 3 138 := ⟨by decide +kernel, rfl⟩
theorem dX6_total_138 : Dc cX6_total 138 (.ireturn) 1 139 := ⟨by decide +kernel, rfl⟩
theorem dX6_total_139 : Dc cX6_total 139 (.aload_n 0) 1 140 := ⟨by decide +kernel, rfl⟩
theorem dX6_total_140 : Dc cX6_total 140 (.getfield 12) 3 143 := ⟨by decide +kernel, rfl⟩
theorem dX6_total_143 : Dc cX6_total 143 (.getfield 200) 3 146 := ⟨by decide +kernel, rfl⟩
theorem dX6_total_146 : Dc cX6_total 146 (.ireturn) 1 147 := ⟨by decide +kernel, rfl⟩
theorem dX6_total_147 : Dc cX6_total 147 (.aload_n 0) 1 148 := ⟨by decide +kernel, rfl⟩
theorem dX6_total_148 : Dc cX6_total 148 (.getfield 12) 3 151 := ⟨by decide +kernel, rfl⟩
theorem dX6_total_151 : Dc cX6_total 151 (.getfield 203) 3 154 := ⟨by decide +kernel, rfl⟩
theorem dX6_total_154 : Dc cX6_total 154 (.ireturn) 1 155 := ⟨by decide +kernel, rfl⟩
theorem dX6_total_155 : Dc cX6_total 155 (.aload_n 0) 1 156 := ⟨by decide +kernel, rfl⟩
theorem dX6_total_156 : Dc cX6_total 156 (.getfield 12) 3 159 := ⟨by decide +kernel, rfl⟩
theorem dX6_total_159 : Dc cX6_total 159 (.getfield 206) 3 162 := ⟨by decide +kernel, rfl⟩
theorem dX6_total_162 : Dc cX6_total 162 (.ireturn) 1 163 := ⟨by decide +kernel, rfl⟩
theorem dX6_total_163 : Dc cX6_total 163 (.aload_n 0) 1 164 := ⟨by decide +kernel, rfl⟩
theorem dX6_total_164 : Dc cX6_total 164 (.invokevirtual 209) 3 167 := ⟨by decide +kernel, rfl⟩
theorem dX6_total_167 : Dc cX6_total 167 (.ireturn) 1 168 := ⟨by decide +kernel, rfl⟩
theorem dX6_total_168 : Dc cX6_total 168 (.aload_n 0) 1 169 := ⟨by decide +kernel, rfl⟩
theorem dX6_total_169 : Dc cX6_total 169 (.getfield 19) 3 172 := ⟨by decide +kernel, rfl⟩
theorem dX6_total_172 : Dc cX6_total 172 (.getfield 168) 3 175 := ⟨by decide +kernel, rfl⟩
theorem dX6_total_175 : Dc cX6_total 175 (.ireturn) 1 176 := ⟨by decide +kernel, rfl⟩
theorem dX6_total_176 : Dc cX6_total 176 (.aload_n 0) 1 177 := ⟨by decide +kernel, rfl⟩
theorem dX6_total_177 : Dc cX6_total 177 (.getfield 29) 3 180 := ⟨by decide +kernel, rfl⟩
theorem dX6_total_180 : Dc cX6_total 180 (.getfield 145) 3 183 := ⟨by decide +kernel, rfl⟩
theorem dX6_total_183 : Dc cX6_total 183 (.ireturn) 1 184 := ⟨by decide +kernel, rfl⟩
theorem dX6_total_184 : Dc cX6_total 184 (.bipush (-2)) 2 186 := ⟨by decide +kernel, rfl⟩
theorem dX6_total_186 : Dc cX6_total 186 (.ireturn) 1 187 := ⟨by decide +kernel, rfl⟩
theorem dX6_alike_0 : Dc cX6_alike 0 (.aload_n 0) 1 1 := ⟨by decide +kernel, rfl⟩
theorem dX6_alike_1 : Dc cX6_alike 1 (.getfield 12) 3 4 := ⟨by decide +kernel, rfl⟩
theorem dX6_alike_4 : Dc cX6_alike 4 (.getfield 74) 3 7 := ⟨by decide +kernel, rfl⟩
theorem dX6_alike_7 : Dc cX6_alike 7 (.iload_n 1) 1 8 := ⟨by decide +kernel, rfl⟩
theorem dX6_alike_8 : Dc cX6_alike 8 (.invokevirtual 105) 3 11 := ⟨by decide +kernel, rfl⟩
theorem dX6_alike_11 : Db cX6_alike 11 (fun o => .ifCond .eq o) 14 28 := ⟨17, by decide +kernel, rfl, rfl⟩
theorem dX6_alike_14 : Dc cX6_alike 14 (.aload_n 0) 1 15 := ⟨by decide +kernel, rfl⟩
theorem dX6_alike_15 : Dc cX6_alike 15 (.getfield 12) 3 18 := ⟨by decide +kernel, rfl⟩
theorem dX6_alike_18 : Dc cX6_alike 18 (.getfield 74) 3 21 := ⟨by decide +kernel, rfl⟩
theorem dX6_alike_21 : Dc cX6_alike 21 (.iload_n 2) 1 22 := ⟨by decide +kernel, rfl⟩
theorem dX6_alike_22 : Dc cX6_alike 22 (.invokevirtual 105) 3 25 := ⟨by decide +kernel, rfl⟩
theorem dX6_alike_25 : Db cX6_alike 25 (fun o => .ifCond .ne o) 28 30 := ⟨5, by decide +kernel, rfl, rfl⟩
theorem dX6_alike_28 : Dc cX6_alike 28 (.iconst (-1)) 1 29 := ⟨by decide +kernel, rfl⟩
theorem dX6_alike_29 : Dc cX6_alike 29 (.ireturn) 1 30 := ⟨by decide +kernel, rfl⟩
theorem dX6_alike_30 : Dc cX6_alike 30 (.iload_n 3) 1 31 := ⟨by decide +kernel, rfl⟩
theorem dX6_alike_31 : Db cX6_alike 31 (fun o => .ifCond .lt o) 34 39 := ⟨8, by decide +kernel, rfl, rfl⟩
theorem dX6_alike_34 : Dc cX6_alike 34 (.iload_n 3) 1 35 := ⟨by decide +kernel, rfl⟩
theorem dX6_alike_35 : Dc cX6_alike 35 (.iconst 1) 1 36 := ⟨by decide +kernel, rfl⟩
theorem dX6_alike_36 : Db cX6_alike 36 (fun o => .if_icmp .le o) 39 42 := ⟨6, by decide +kernel, rfl, rfl⟩
theorem dX6_alike_39 : Dc cX6_alike 39 (.bipush (-2)) 2 41 := ⟨by decide +kernel, rfl⟩
theorem dX6_alike_41 : Dc cX6_alike 41 (.ireturn) 1 42 := ⟨by decide +kernel, rfl⟩
theorem dX6_alike_42 : Dc cX6_alike 42 (.aload_n 0) 1 43 := ⟨by decide +kernel, rfl⟩
theorem dX6_alike_43 : Dc cX6_alike 43 (.iload_n 1) 1 44 := ⟨by decide +kernel, rfl⟩
theorem dX6_alike_44 : Dc cX6_alike 44 (.iload_n 2) 1 45 := ⟨by decide +kernel, rfl⟩
theorem dX6_alike_45 : Dc cX6_alike 45 (.iload_n 3) 1 46 := ⟨by decide +kernel, rfl⟩
theorem dX6_alike_46 : Dc cX6_alike 46 (.iconst 1) 1 47 := ⟨by decide +kernel, rfl⟩
theorem dX6_alike_47 : Db cX6_alike 47 (fun o => .if_icmp .ne o) 50 54 := ⟨7, by decide +kernel, rfl, rfl⟩
theorem dX6_alike_50 : Dc cX6_alike 50 (.iconst 1) 1 51 := ⟨by decide +kernel, rfl⟩
theorem dX6_alike_51 : Db cX6_alike 51 .goto 54 55 := ⟨4, by decide +kernel, rfl, rfl⟩
theorem dX6_alike_54 : Dc cX6_alike 54 (.iconst 0) 1 55 := ⟨by decide +kernel, rfl⟩
theorem dX6_alike_55 : Dc cX6_alike 55 (.invokevirtual 212) 3 58 := ⟨by decide +kernel, rfl⟩
theorem dX6_alike_58 : Dc cX6_alike 58 (.ireturn) 1 59 := ⟨by decide +kernel, rfl⟩
theorem dX6_bestPair_0 : Dc cX6_bestPair 0 (.iload_n 1) 1 1 := ⟨by decide +kernel, rfl⟩
theorem dX6_bestPair_1 : Db cX6_bestPair 1 (fun o => .ifCond .lt o) 4 9 := ⟨8, by decide +kernel, rfl, rfl⟩
theorem dX6_bestPair_4 : Dc cX6_bestPair 4 (.iload_n 1) 1 5 := ⟨by decide +kernel, rfl⟩
theorem dX6_bestPair_5 : Dc cX6_bestPair 5 (.iconst 1) 1 6 := ⟨by decide +kernel, rfl⟩
theorem dX6_bestPair_6 : Db cX6_bestPair 6 (fun o => .if_icmp .le o) 9 12 := ⟨6, by decide +kernel, rfl, rfl⟩
theorem dX6_bestPair_9 : Dc cX6_bestPair 9 (.bipush (-2)) 2 11 := ⟨by decide +kernel, rfl⟩
theorem dX6_bestPair_11 : Dc cX6_bestPair 11 (.ireturn) 1 12 := ⟨by decide +kernel, rfl⟩
theorem dX6_bestPair_12 : Dc cX6_bestPair 12 (.bipush (-5)) 2 14 := ⟨by decide +kernel, rfl⟩
theorem dX6_bestPair_14 : Dc cX6_bestPair 14 (.istore_n 2) 1 15 := ⟨by decide +kernel, rfl⟩
theorem dX6_bestPair_15 : Dc cX6_bestPair 15 (.iconst (-1)) 1 16 := ⟨by decide +kernel, rfl⟩
theorem dX6_bestPair_16 : Dc cX6_bestPair 16 (.istore_n 3) 1 17 := ⟨by decide +kernel, rfl⟩
theorem dX6_bestPair_17 : Dc cX6_bestPair 17 (.aload_n 0) 1 18 := ⟨by decide +kernel, rfl⟩
theorem dX6_bestPair_18 : Dc cX6_bestPair 18 (.getfield 12) 3 21 := ⟨by decide +kernel, rfl⟩
theorem dX6_bestPair_21 : Dc cX6_bestPair 21 (.getfield 74) 3 24 := ⟨by decide +kernel, rfl⟩
theorem dX6_bestPair_24 : Dc cX6_bestPair 24 (.getfield 78) 3 27 := ⟨by decide +kernel, rfl⟩
theorem dX6_bestPair_27 : Dc cX6_bestPair 27 (.istore 4) 2 29 := ⟨by decide +kernel, rfl⟩
theorem dX6_bestPair_29 : Dc cX6_bestPair 29 (.iconst 0) 1 30 := ⟨by decide +kernel, rfl⟩
theorem dX6_bestPair_30 : Dc cX6_bestPair 30 (.istore 5) 2 32 := ⟨by decide +kernel, rfl⟩
theorem dX6_bestPair_32 : Dc cX6_bestPair 32 (.iload 5) 2 34 := ⟨by decide +kernel, rfl⟩
theorem dX6_bestPair_34 : Dc cX6_bestPair 34 (.iload 4) 2 36 := ⟨by decide +kernel, rfl⟩
theorem dX6_bestPair_36 : Db cX6_bestPair 36 (fun o => .if_icmp .ge o) 39 107 := ⟨71, by decide +kernel, rfl, rfl⟩
theorem dX6_bestPair_39 : Dc cX6_bestPair 39 (.iload 5) 2 41 := ⟨by decide +kernel, rfl⟩
theorem dX6_bestPair_41 : Dc cX6_bestPair 41 (.iconst 1) 1 42 := ⟨by decide +kernel, rfl⟩
theorem dX6_bestPair_42 : Dc cX6_bestPair 42 (.iadd) 1 43 := ⟨by decide +kernel, rfl⟩
theorem dX6_bestPair_43 : Dc cX6_bestPair 43 (.istore 6) 2 45 := ⟨by decide +kernel, rfl⟩
theorem dX6_bestPair_45 : Dc cX6_bestPair 45 (.iload 6) 2 47 := ⟨by decide +kernel, rfl⟩
theorem dX6_bestPair_47 : Dc cX6_bestPair 47 (.iload 4) 2 49 := ⟨by decide +kernel, rfl⟩
theorem dX6_bestPair_49 : Db cX6_bestPair 49 (fun o => .if_icmp .ge o) 52 101 := ⟨52, by decide +kernel, rfl, rfl⟩
theorem dX6_bestPair_52 : Dc cX6_bestPair 52 (.aload_n 0) 1 53 := ⟨by decide +kernel, rfl⟩
theorem dX6_bestPair_53 : Dc cX6_bestPair 53 (.iload 5) 2 55 := ⟨by decide +kernel, rfl⟩
theorem dX6_bestPair_55 : Dc cX6_bestPair 55 (.iload 6) 2 57 := ⟨by decide +kernel, rfl⟩
theorem dX6_bestPair_57 : Dc cX6_bestPair 57 (.invokevirtual 112) 3 60 := ⟨by decide +kernel, rfl⟩
theorem dX6_bestPair_60 : Db cX6_bestPair 60 (fun o => .ifCond .eq o) 63 74 := ⟨14, by decide +kernel, rfl, rfl⟩
theorem dX6_bestPair_63 : Dc cX6_bestPair 63 (.aload_n 0) 1 64 := ⟨by decide +kernel, rfl⟩
theorem dX6_bestPair_64 : Dc cX6_bestPair 64 (.iload 5) 2 66 := ⟨by decide +kernel, rfl⟩
theorem dX6_bestPair_66 : Dc cX6_bestPair 66 (.iload 6) 2 68 := ⟨by decide +kernel, rfl⟩
theorem dX6_bestPair_68 : Dc cX6_bestPair 68 (.invokevirtual 216) 3 71 := ⟨by decide +kernel, rfl⟩
theorem dX6_bestPair_71 : Db cX6_bestPair 71 .goto 74 75 := ⟨4, by decide +kernel, rfl, rfl⟩
theorem dX6_bestPair_74 : Dc cX6_bestPair 74 (.iconst (-1)) 1 75 := ⟨by decide +kernel, rfl⟩
theorem dX6_bestPair_75 : Dc cX6_bestPair 75 (.istore 7) 2 77 := ⟨by decide +kernel, rfl⟩
theorem dX6_bestPair_77 : Dc cX6_bestPair 77 (.iload 7) 2 79 := ⟨by decide +kernel, rfl⟩
theorem dX6_bestPair_79 : Dc cX6_bestPair 79 (.iload_n 3) 1 80 := ⟨by decide +kernel, rfl⟩
theorem dX6_bestPair_80 : Db cX6_bestPair 80 (fun o => .if_icmp .le o) 83 95 := ⟨15, by decide +kernel, rfl, rfl⟩
theorem dX6_bestPair_83 : Dc cX6_bestPair 83 (.iload 7) 2 85 := ⟨by decide +kernel, rfl⟩
theorem dX6_bestPair_85 : Dc cX6_bestPair 85 (.istore_n 3) 1 86 := ⟨by decide +kernel, rfl⟩
theorem dX6_bestPair_86 : Dc cX6_bestPair 86 (.bipush 10) 2 88 := ⟨by decide +kernel, rfl⟩
theorem dX6_bestPair_88 : Dc cX6_bestPair 88 (.iload 5) 2 90 := ⟨by decide +kernel, rfl⟩
theorem dX6_bestPair_90 : Dc cX6_bestPair 90 (.imul) 1 91 := ⟨by decide +kernel, rfl⟩
theorem dX6_bestPair_91 : Dc cX6_bestPair 91 (.iload 6) 2 93 := ⟨by decide +kernel, rfl⟩
theorem dX6_bestPair_93 : Dc cX6_bestPair 93 (.iadd) 1 94 := ⟨by decide +kernel, rfl⟩
theorem dX6_bestPair_94 : Dc cX6_bestPair 94 (.istore_n 2) 1 95 := ⟨by decide +kernel, rfl⟩
theorem dX6_bestPair_95 : Dc cX6_bestPair 95 (.iinc 6 1) 3 98 := ⟨by decide +kernel, rfl⟩
theorem dX6_bestPair_98 : Db cX6_bestPair 98 .goto 101 45 := ⟨-53, by decide +kernel, rfl, rfl⟩
theorem dX6_bestPair_101 : Dc cX6_bestPair 101 (.iinc 5 1) 3 104 := ⟨by decide +kernel, rfl⟩
theorem dX6_bestPair_104 : Db cX6_bestPair 104 .goto 107 32 := ⟨-72, by decide +kernel, rfl, rfl⟩
theorem dX6_bestPair_107 : Dc cX6_bestPair 107 (.iload_n 1) 1 108 := ⟨by decide +kernel, rfl⟩
theorem dX6_bestPair_108 : Db cX6_bestPair 108 (fun o => .ifCond .eq o) 111 117 := ⟨9, by decide +kernel, rfl, rfl⟩
theorem dX6_bestPair_111 : Dc cX6_bestPair 111 (.iload_n 2) 1 112 := ⟨by decide +kernel, rfl⟩
theorem dX6_bestPair_112 : Dc cX6_bestPair 112 (.bipush (-5)) 2 114 := ⟨by decide +kernel, rfl⟩
theorem dX6_bestPair_114 : Db cX6_bestPair 114 (fun o => .if_icmp .ne o) 117 121 := ⟨7, by decide +kernel, rfl, rfl⟩
theorem dX6_bestPair_117 : Dc cX6_bestPair 117 (.iload_n 2) 1 118 := ⟨by decide +kernel, rfl⟩
theorem dX6_bestPair_118 : Db cX6_bestPair 118 .goto 121 122 := ⟨4, by decide +kernel, rfl, rfl⟩
theorem dX6_bestPair_121 : Dc cX6_bestPair 121 (.iload_n 3) 1 122 := ⟨by decide +kernel, rfl⟩
theorem dX6_bestPair_122 : Dc cX6_bestPair 122 (.ireturn) 1 123 := ⟨by decide +kernel, rfl⟩
theorem dX6_fits_0 : Dc cX6_fits 0 (.aload_n 0) 1 1 := ⟨by decide +kernel, rfl⟩
theorem dX6_fits_1 : Dc cX6_fits 1 (.getfield 12) 3 4 := ⟨by decide +kernel, rfl⟩
theorem dX6_fits_4 : Dc cX6_fits 4 (.getfield 115) 3 7 := ⟨by decide +kernel, rfl⟩
theorem dX6_fits_7 : Dc cX6_fits 7 (.iload_n 1) 1 8 := ⟨by decide +kernel, rfl⟩
theorem dX6_fits_8 : Dc cX6_fits 8 (.invokevirtual 105) 3 11 := ⟨by decide +kernel, rfl⟩
theorem dX6_fits_11 : Db cX6_fits 11 (fun o => .ifCond .eq o) 14 28 := ⟨17, by decide +kernel, rfl, rfl⟩
theorem dX6_fits_14 : Dc cX6_fits 14 (.aload_n 0) 1 15 := ⟨by decide +kernel, rfl⟩
theorem dX6_fits_15 : Dc cX6_fits 15 (.getfield 12) 3 18 := ⟨by decide +kernel, rfl⟩
theorem dX6_fits_18 : Dc cX6_fits 18 (.getfield 74) 3 21 := ⟨by decide +kernel, rfl⟩
theorem dX6_fits_21 : Dc cX6_fits 21 (.iload_n 2) 1 22 := ⟨by decide +kernel, rfl⟩
theorem dX6_fits_22 : Dc cX6_fits 22 (.invokevirtual 105) 3 25 := ⟨by decide +kernel, rfl⟩
theorem dX6_fits_25 : Db cX6_fits 25 (fun o => .ifCond .ne o) 28 30 := ⟨5, by decide +kernel, rfl, rfl⟩
theorem dX6_fits_28 : Dc cX6_fits 28 (.iconst (-1)) 1 29 := ⟨by decide +kernel, rfl⟩
theorem dX6_fits_29 : Dc cX6_fits 29 (.ireturn) 1 30 := ⟨by decide +kernel, rfl⟩
theorem dX6_fits_30 : Dc cX6_fits 30 (.aload_n 0) 1 31 := ⟨by decide +kernel, rfl⟩
theorem dX6_fits_31 : Dc cX6_fits 31 (.getfield 12) 3 34 := ⟨by decide +kernel, rfl⟩
theorem dX6_fits_34 : Dc cX6_fits 34 (.getfield 115) 3 37 := ⟨by decide +kernel, rfl⟩
theorem dX6_fits_37 : Dc cX6_fits 37 (.iload_n 1) 1 38 := ⟨by decide +kernel, rfl⟩
theorem dX6_fits_38 : Dc cX6_fits 38 (.invokevirtual 118) 3 41 := ⟨by decide +kernel, rfl⟩
theorem dX6_fits_41 : Dc cX6_fits 41 (.istore_n 3) 1 42 := ⟨by decide +kernel, rfl⟩
theorem dX6_fits_42 : Dc cX6_fits 42 (.aload_n 0) 1 43 := ⟨by decide +kernel, rfl⟩
theorem dX6_fits_43 : Dc cX6_fits 43 (.getfield 12) 3 46 := ⟨by decide +kernel, rfl⟩
theorem dX6_fits_46 : Dc cX6_fits 46 (.getfield 74) 3 49 := ⟨by decide +kernel, rfl⟩
theorem dX6_fits_49 : Dc cX6_fits 49 (.iload_n 2) 1 50 := ⟨by decide +kernel, rfl⟩
theorem dX6_fits_50 : Dc cX6_fits 50 (.invokevirtual 118) 3 53 := ⟨by decide +kernel, rfl⟩
theorem dX6_fits_53 : Dc cX6_fits 53 (.istore 4) 2 55 := ⟨by decide +kernel, rfl⟩
theorem dX6_fits_55 : Dc cX6_fits 55 (.iload_n 3) 1 56 := ⟨by decide +kernel, rfl⟩
theorem dX6_fits_56 : Db cX6_fits 56 (fun o => .ifCond .le o) 59 66 := ⟨10, by decide +kernel, rfl, rfl⟩
theorem dX6_fits_59 : Dc cX6_fits 59 (.iload 4) 2 61 := ⟨by decide +kernel, rfl⟩
theorem dX6_fits_61 : Dc cX6_fits 61 (.iload_n 3) 1 62 := ⟨by decide +kernel, rfl⟩
theorem dX6_fits_62 : Dc cX6_fits 62 (.irem) 1 63 := ⟨by decide +kernel, rfl⟩
theorem dX6_fits_63 : Db cX6_fits 63 (fun o => .ifCond .eq o) 66 69 := ⟨6, by decide +kernel, rfl, rfl⟩
theorem dX6_fits_66 : Dc cX6_fits 66 (.bipush (-5)) 2 68 := ⟨by decide +kernel, rfl⟩
theorem dX6_fits_68 : Dc cX6_fits 68 (.ireturn) 1 69 := ⟨by decide +kernel, rfl⟩
theorem dX6_fits_69 : Dc cX6_fits 69 (.iload 4) 2 71 := ⟨by decide +kernel, rfl⟩
theorem dX6_fits_71 : Dc cX6_fits 71 (.iload_n 3) 1 72 := ⟨by decide +kernel, rfl⟩
theorem dX6_fits_72 : Dc cX6_fits 72 (.idiv) 1 73 := ⟨by decide +kernel, rfl⟩
theorem dX6_fits_73 : Dc cX6_fits 73 (.istore 5) 2 75 := ⟨by decide +kernel, rfl⟩
theorem dX6_fits_75 : Dc cX6_fits 75 (.iconst 0) 1 76 := ⟨by decide +kernel, rfl⟩
theorem dX6_fits_76 : Dc cX6_fits 76 (.istore 6) 2 78 := ⟨by decide +kernel, rfl⟩
theorem dX6_fits_78 : Dc cX6_fits 78 (.iload 6) 2 80 := ⟨by decide +kernel, rfl⟩
theorem dX6_fits_80 : Dc cX6_fits 80 (.iload 5) 2 82 := ⟨by decide +kernel, rfl⟩
theorem dX6_fits_82 : Db cX6_fits 82 (fun o => .if_icmp .ge o) 85 109 := ⟨27, by decide +kernel, rfl, rfl⟩
theorem dX6_fits_85 : Dc cX6_fits 85 (.aload_n 0) 1 86 := ⟨by decide +kernel, rfl⟩
theorem dX6_fits_86 : Dc cX6_fits 86 (.iload_n 1) 1 87 := ⟨by decide +kernel, rfl⟩
theorem dX6_fits_87 : Dc cX6_fits 87 (.iload 6) 2 89 := ⟨by decide +kernel, rfl⟩
theorem dX6_fits_89 : Dc cX6_fits 89 (.iload_n 2) 1 90 := ⟨by decide +kernel, rfl⟩
theorem dX6_fits_90 : Dc cX6_fits 90 (.iload 6) 2 92 := ⟨by decide +kernel, rfl⟩
theorem dX6_fits_92 : Dc cX6_fits 92 (.iload_n 3) 1 93 := ⟨by decide +kernel, rfl⟩
theorem dX6_fits_93 : Dc cX6_fits 93 (.imul) 1 94 := ⟨by decide +kernel, rfl⟩
theorem dX6_fits_94 : Dc cX6_fits 94 (.invokevirtual 219) 3 97 := ⟨by decide +kernel, rfl⟩
theorem dX6_fits_97 : Db cX6_fits 97 (fun o => .ifCond .ne o) 100 103 := ⟨6, by decide +kernel, rfl, rfl⟩
theorem dX6_fits_100 : Dc cX6_fits 100 (.bipush (-5)) 2 102 := ⟨by decide +kernel, rfl⟩
theorem dX6_fits_102 : Dc cX6_fits 102 (.ireturn) 1 103 := ⟨by decide +kernel, rfl⟩
theorem dX6_fits_103 : Dc cX6_fits 103 (.iinc 6 1) 3 106 := ⟨by decide +kernel, rfl⟩
theorem dX6_fits_106 : Db cX6_fits 106 .goto 109 78 := ⟨-28, by decide +kernel, rfl, rfl⟩
theorem dX6_fits_109 : Dc cX6_fits 109 (.iload 5) 2 111 := ⟨by decide +kernel, rfl⟩
theorem dX6_fits_111 : Dc cX6_fits 111 (.ireturn) 1 112 := ⟨by decide +kernel, rfl⟩
theorem dX6_mostTurns_0 : Dc cX6_mostTurns 0 (.aload_n 0) 1 1 := ⟨by decide +kernel, rfl⟩
theorem dX6_mostTurns_1 : Dc cX6_mostTurns 1 (.getfield 12) 3 4 := ⟨by decide +kernel, rfl⟩
theorem dX6_mostTurns_4 : Dc cX6_mostTurns 4 (.getfield 115) 3 7 := ⟨by decide +kernel, rfl⟩
theorem dX6_mostTurns_7 : Dc cX6_mostTurns 7 (.iload_n 1) 1 8 := ⟨by decide +kernel, rfl⟩
theorem dX6_mostTurns_8 : Dc cX6_mostTurns 8 (.invokevirtual 105) 3 11 := ⟨by decide +kernel, rfl⟩
theorem dX6_mostTurns_11 : Db cX6_mostTurns 11 (fun o => .ifCond .ne o) 14 16 := ⟨5, by decide +kernel, rfl, rfl⟩
theorem dX6_mostTurns_14 : Dc cX6_mostTurns 14 (.iconst (-1)) 1 15 := ⟨by decide +kernel, rfl⟩
theorem dX6_mostTurns_15 : Dc cX6_mostTurns 15 (.ireturn) 1 16 := ⟨by decide +kernel, rfl⟩
theorem dX6_mostTurns_16 : Dc cX6_mostTurns 16 (.bipush (-5)) 2 18 := ⟨by decide +kernel, rfl⟩
theorem dX6_mostTurns_18 : Dc cX6_mostTurns 18 (.istore_n 2) 1 19 := ⟨by decide +kernel, rfl⟩
theorem dX6_mostTurns_19 : Dc cX6_mostTurns 19 (.aload_n 0) 1 20 := ⟨by decide +kernel, rfl⟩
theorem dX6_mostTurns_20 : Dc cX6_mostTurns 20 (.getfield 12) 3 23 := ⟨by decide +kernel, rfl⟩
theorem dX6_mostTurns_23 : Dc cX6_mostTurns 23 (.getfield 115) 3 26 := ⟨by decide +kernel, rfl⟩
theorem dX6_mostTurns_26 : Dc cX6_mostTurns 26 (.iload_n 1) 1 27 := ⟨by decide +kernel, rfl⟩
theorem dX6_mostTurns_27 : Dc cX6_mostTurns 27 (.invokevirtual 118) 3 30 := ⟨by decide +kernel, rfl⟩
theorem dX6_mostTurns_30 : Dc cX6_mostTurns 30 (.istore_n 3) 1 31 := ⟨by decide +kernel, rfl⟩
theorem dX6_mostTurns_31 : Dc cX6_mostTurns 31 (.iconst 0) 1 32 := ⟨by decide +kernel, rfl⟩
theorem dX6_mostTurns_32 : Dc cX6_mostTurns 32 (.istore 4) 2 34 := ⟨by decide +kernel, rfl⟩
theorem dX6_mostTurns_34 : Dc cX6_mostTurns 34 (.iload 4) 2 36 := ⟨by decide +kernel, rfl⟩
theorem dX6_mostTurns_36 : Dc cX6_mostTurns 36 (.iload_n 3) 1 37 := ⟨by decide +kernel, rfl⟩
theorem dX6_mostTurns_37 : Db cX6_mostTurns 37 (fun o => .if_icmp .ge o) 40 77 := ⟨40, by decide +kernel, rfl, rfl⟩
theorem dX6_mostTurns_40 : Dc cX6_mostTurns 40 (.aload_n 0) 1 41 := ⟨by decide +kernel, rfl⟩
theorem dX6_mostTurns_41 : Dc cX6_mostTurns 41 (.iload_n 1) 1 42 := ⟨by decide +kernel, rfl⟩
theorem dX6_mostTurns_42 : Dc cX6_mostTurns 42 (.iload 4) 2 44 := ⟨by decide +kernel, rfl⟩
theorem dX6_mostTurns_44 : Dc cX6_mostTurns 44 (.invokevirtual 223) 3 47 := ⟨by decide +kernel, rfl⟩
theorem dX6_mostTurns_47 : Dc cX6_mostTurns 47 (.istore 5) 2 49 := ⟨by decide +kernel, rfl⟩
theorem dX6_mostTurns_49 : Dc cX6_mostTurns 49 (.iload 5) 2 51 := ⟨by decide +kernel, rfl⟩
theorem dX6_mostTurns_51 : Dc cX6_mostTurns 51 (.bipush (-5)) 2 53 := ⟨by decide +kernel, rfl⟩
theorem dX6_mostTurns_53 : Db cX6_mostTurns 53 (fun o => .if_icmp .eq o) 56 71 := ⟨18, by decide +kernel, rfl, rfl⟩
theorem dX6_mostTurns_56 : Dc cX6_mostTurns 56 (.iload_n 2) 1 57 := ⟨by decide +kernel, rfl⟩
theorem dX6_mostTurns_57 : Dc cX6_mostTurns 57 (.bipush (-5)) 2 59 := ⟨by decide +kernel, rfl⟩
theorem dX6_mostTurns_59 : Db cX6_mostTurns 59 (fun o => .if_icmp .eq o) 62 68 := ⟨9, by decide +kernel, rfl, rfl⟩
theorem dX6_mostTurns_62 : Dc cX6_mostTurns 62 (.iload 5) 2 64 := ⟨by decide +kernel, rfl⟩
theorem dX6_mostTurns_64 : Dc cX6_mostTurns 64 (.iload_n 2) 1 65 := ⟨by decide +kernel, rfl⟩
theorem dX6_mostTurns_65 : Db cX6_mostTurns 65 (fun o => .if_icmp .ge o) 68 71 := ⟨6, by decide +kernel, rfl, rfl⟩
theorem dX6_mostTurns_68 : Dc cX6_mostTurns 68 (.iload 5) 2 70 := ⟨by decide +kernel, rfl⟩
theorem dX6_mostTurns_70 : Dc cX6_mostTurns 70 (.istore_n 2) 1 71 := ⟨by decide +kernel, rfl⟩
theorem dX6_mostTurns_71 : Dc cX6_mostTurns 71 (.iinc 4 1) 3 74 := ⟨by decide +kernel, rfl⟩
theorem dX6_mostTurns_74 : Db cX6_mostTurns 74 .goto 77 34 := ⟨-40, by decide +kernel, rfl, rfl⟩
theorem dX6_mostTurns_77 : Dc cX6_mostTurns 77 (.iload_n 2) 1 78 := ⟨by decide +kernel, rfl⟩
theorem dX6_mostTurns_78 : Dc cX6_mostTurns 78 (.ireturn) 1 79 := ⟨by decide +kernel, rfl⟩
theorem dX6_ifPlayed_0 : Dc cX6_ifPlayed 0 (.aload_n 0) 1 1 := ⟨by decide +kernel, rfl⟩
theorem dX6_ifPlayed_1 : Dc cX6_ifPlayed 1 (.getfield 12) 3 4 := ⟨by decide +kernel, rfl⟩
theorem dX6_ifPlayed_4 : Dc cX6_ifPlayed 4 (.getfield 115) 3 7 := ⟨by decide +kernel, rfl⟩
theorem dX6_ifPlayed_7 : Dc cX6_ifPlayed 7 (.iload_n 1) 1 8 := ⟨by decide +kernel, rfl⟩
theorem dX6_ifPlayed_8 : Dc cX6_ifPlayed 8 (.invokevirtual 105) 3 11 := ⟨by decide +kernel, rfl⟩
theorem dX6_ifPlayed_11 : Db cX6_ifPlayed 11 (fun o => .ifCond .ne o) 14 16 := ⟨5, by decide +kernel, rfl, rfl⟩
theorem dX6_ifPlayed_14 : Dc cX6_ifPlayed 14 (.iconst (-1)) 1 15 := ⟨by decide +kernel, rfl⟩
theorem dX6_ifPlayed_15 : Dc cX6_ifPlayed 15 (.ireturn) 1 16 := ⟨by decide +kernel, rfl⟩
theorem dX6_ifPlayed_16 : Dc cX6_ifPlayed 16 (.iload_n 2) 1 17 := ⟨by decide +kernel, rfl⟩
theorem dX6_ifPlayed_17 : Dc cX6_ifPlayed 17 (.invokestatic 128) 3 20 := ⟨by decide +kernel, rfl⟩
theorem dX6_ifPlayed_20 : Db cX6_ifPlayed 20 (fun o => .ifCond .eq o) 23 32 := ⟨12, by decide +kernel, rfl, rfl⟩
theorem dX6_ifPlayed_23 : Dc cX6_ifPlayed 23 (.iload_n 3) 1 24 := ⟨by decide +kernel, rfl⟩
theorem dX6_ifPlayed_24 : Db cX6_ifPlayed 24 (fun o => .ifCond .lt o) 27 32 := ⟨8, by decide +kernel, rfl, rfl⟩
theorem dX6_ifPlayed_27 : Dc cX6_ifPlayed 27 (.iload_n 3) 1 28 := ⟨by decide +kernel, rfl⟩
theorem dX6_ifPlayed_28 : Dc cX6_ifPlayed 28 (.iconst 4) 1 29 := ⟨by decide +kernel, rfl⟩
theorem dX6_ifPlayed_29 : Db cX6_ifPlayed 29 (fun o => .if_icmp .le o) 32 35 := ⟨6, by decide +kernel, rfl, rfl⟩
theorem dX6_ifPlayed_32 : Dc cX6_ifPlayed 32 (.bipush (-2)) 2 34 := ⟨by decide +kernel, rfl⟩
theorem dX6_ifPlayed_34 : Dc cX6_ifPlayed 34 (.ireturn) 1 35 := ⟨by decide +kernel, rfl⟩
theorem dX6_ifPlayed_35 : Dc cX6_ifPlayed 35 (.aload_n 0) 1 36 := ⟨by decide +kernel, rfl⟩
theorem dX6_ifPlayed_36 : Dc cX6_ifPlayed 36 (.getfield 43) 3 39 := ⟨by decide +kernel, rfl⟩
theorem dX6_ifPlayed_39 : Dc cX6_ifPlayed 39 (.aload_n 0) 1 40 := ⟨by decide +kernel, rfl⟩
theorem dX6_ifPlayed_40 : Dc cX6_ifPlayed 40 (.getfield 12) 3 43 := ⟨by decide +kernel, rfl⟩
theorem dX6_ifPlayed_43 : Dc cX6_ifPlayed 43 (.getfield 88) 3 46 := ⟨by decide +kernel, rfl⟩
theorem dX6_ifPlayed_46 : Dc cX6_ifPlayed 46 (.invokevirtual 226) 3 49 := ⟨by decide +kernel, rfl⟩
theorem dX6_ifPlayed_49 : Dc cX6_ifPlayed 49 (.aload_n 0) 1 50 := ⟨by decide +kernel, rfl⟩
theorem dX6_ifPlayed_50 : Dc cX6_ifPlayed 50 (.getfield 36) 3 53 := ⟨by decide +kernel, rfl⟩
theorem dX6_ifPlayed_53 : Dc cX6_ifPlayed 53 (.aload_n 0) 1 54 := ⟨by decide +kernel, rfl⟩
theorem dX6_ifPlayed_54 : Dc cX6_ifPlayed 54 (.getfield 43) 3 57 := ⟨by decide +kernel, rfl⟩
theorem dX6_ifPlayed_57 : Dc cX6_ifPlayed 57 (.aload_n 0) 1 58 := ⟨by decide +kernel, rfl⟩
theorem dX6_ifPlayed_58 : Dc cX6_ifPlayed 58 (.getfield 12) 3 61 := ⟨by decide +kernel, rfl⟩
theorem dX6_ifPlayed_61 : Dc cX6_ifPlayed 61 (.getfield 115) 3 64 := ⟨by decide +kernel, rfl⟩
theorem dX6_ifPlayed_64 : Dc cX6_ifPlayed 64 (.iload_n 1) 1 65 := ⟨by decide +kernel, rfl⟩
theorem dX6_ifPlayed_65 : Dc cX6_ifPlayed 65 (.iload_n 2) 1 66 := ⟨by decide +kernel, rfl⟩
theorem dX6_ifPlayed_66 : Dc cX6_ifPlayed 66 (.invokevirtual 229) 3 69 := ⟨by decide +kernel, rfl⟩
theorem dX6_ifPlayed_69 : Dc cX6_ifPlayed 69 (.iload_n 3) 1 70 := ⟨by decide +kernel, rfl⟩
theorem dX6_ifPlayed_70 : decode cX6_ifPlayed 70 = .ok (.tableswitch 62 0 3 #[30, 38, 46, 54], 30) := by decide +kernel
theorem dX6_ifPlayed_100 : Dc cX6_ifPlayed 100 (.aload_n 0) 1 101 := ⟨by decide +kernel, rfl⟩
theorem dX6_ifPlayed_101 : Dc cX6_ifPlayed 101 (.getfield 36) 3 104 := ⟨by decide +kernel, rfl⟩
theorem dX6_ifPlayed_104 : Dc cX6_ifPlayed 104 (.getfield 233) 3 107 := ⟨by decide +kernel, rfl⟩
theorem dX6_ifPlayed_107 : Dc cX6_ifPlayed 107 (.ireturn) 1 108 := ⟨by decide +kernel, rfl⟩
theorem dX6_ifPlayed_108 : Dc cX6_ifPlayed 108 (.aload_n 0) 1 109 := ⟨by decide +kernel, rfl⟩
theorem dX6_ifPlayed_109 : Dc cX6_ifPlayed 109 (.getfield 36) 3 112 := ⟨by decide +kernel, rfl⟩
theorem dX6_ifPlayed_112 : Dc cX6_ifPlayed 112 (.getfield 236) 3 115 := ⟨by decide +kernel, rfl⟩
theorem dX6_ifPlayed_115 : Dc cX6_ifPlayed 115 (.ireturn) 1 116 := ⟨by decide +kernel, rfl⟩
theorem dX6_ifPlayed_116 : Dc cX6_ifPlayed 116 (.aload_n 0) 1 117 := ⟨by decide +kernel, rfl⟩
theorem dX6_ifPlayed_117 : Dc cX6_ifPlayed 117 (.getfield 43) 3 120 := ⟨by decide +kernel, rfl⟩
theorem dX6_ifPlayed_120 : Dc cX6_ifPlayed 120 (.invokevirtual 194) 3 123 := ⟨by decide +kernel, rfl⟩
theorem dX6_ifPlayed_123 : Dc cX6_ifPlayed 123 (.ireturn) 1 124 := ⟨by decide +kernel, rfl⟩
theorem dX6_ifPlayed_124 : Dc cX6_ifPlayed 124 (.aload_n 0) 1 125 := ⟨by decide +kernel, rfl⟩
theorem dX6_ifPlayed_125 : Dc cX6_ifPlayed 125 (.getfield 43) 3 128 := ⟨by decide +kernel, rfl⟩
theorem dX6_ifPlayed_128 : Dc cX6_ifPlayed 128 (.getfield 191) 3 131 := ⟨by decide +kernel, rfl⟩
theorem dX6_ifPlayed_131 : Dc cX6_ifPlayed 131 (.ireturn) 1 132 := ⟨by decide +kernel, rfl⟩
theorem dX6_ifPlayed_132 : Dc cX6_ifPlayed 132 (.aload_n 0) 1 133 := ⟨by decide +kernel, rfl⟩
theorem dX6_ifPlayed_133 : Dc cX6_ifPlayed 133 (.getfield 36) 3 136 := ⟨by decide +kernel, rfl⟩
theorem dX6_ifPlayed_136 : Dc cX6_ifPlayed 136 (.getfield 239) 3 139 := ⟨by decide +kernel, rfl⟩
theorem dX6_ifPlayed_139 : Dc cX6_ifPlayed 139 (.ireturn) 1 140 := ⟨by decide +kernel, rfl⟩
theorem dX6_fewestTurns_0 : Dc cX6_fewestTurns 0 (.aload_n 0) 1 1 := ⟨by decide +kernel, rfl⟩
theorem dX6_fewestTurns_1 : Dc cX6_fewestTurns 1 (.getfield 12) 3 4 := ⟨by decide +kernel, rfl⟩
theorem dX6_fewestTurns_4 : Dc cX6_fewestTurns 4 (.getfield 115) 3 7 := ⟨by decide +kernel, rfl⟩
theorem dX6_fewestTurns_7 : Dc cX6_fewestTurns 7 (.iload_n 1) 1 8 := ⟨by decide +kernel, rfl⟩
theorem dX6_fewestTurns_8 : Dc cX6_fewestTurns 8 (.invokevirtual 105) 3 11 := ⟨by decide +kernel, rfl⟩
theorem dX6_fewestTurns_11 : Db cX6_fewestTurns 11 (fun o => .ifCond .eq o) 14 21 := ⟨10, by decide +kernel, rfl, rfl⟩
theorem dX6_fewestTurns_14 : Dc cX6_fewestTurns 14 (.iload_n 2) 1 15 := ⟨by decide +kernel, rfl⟩
theorem dX6_fewestTurns_15 : Dc cX6_fewestTurns 15 (.invokestatic 175) 3 18 := ⟨by decide +kernel, rfl⟩
theorem dX6_fewestTurns_18 : Db cX6_fewestTurns 18 (fun o => .ifCond .ne o) 21 23 := ⟨5, by decide +kernel, rfl, rfl⟩
theorem dX6_fewestTurns_21 : Dc cX6_fewestTurns 21 (.iconst (-1)) 1 22 := ⟨by decide +kernel, rfl⟩
theorem dX6_fewestTurns_22 : Dc cX6_fewestTurns 22 (.ireturn) 1 23 := ⟨by decide +kernel, rfl⟩
theorem dX6_fewestTurns_23 : Dc cX6_fewestTurns 23 (.iload_n 3) 1 24 := ⟨by decide +kernel, rfl⟩
theorem dX6_fewestTurns_24 : Db cX6_fewestTurns 24 (fun o => .ifCond .lt o) 27 33 := ⟨9, by decide +kernel, rfl, rfl⟩
theorem dX6_fewestTurns_27 : Dc cX6_fewestTurns 27 (.iload_n 3) 1 28 := ⟨by decide +kernel, rfl⟩
theorem dX6_fewestTurns_28 : Dc cX6_fewestTurns 28 (.bipush 100) 2 30 := ⟨by decide +kernel, rfl⟩
theorem dX6_fewestTurns_30 : Db cX6_fewestTurns 30 (fun o => .if_icmp .lt o) 33 36 := ⟨6, by decide +kernel, rfl, rfl⟩
theorem dX6_fewestTurns_33 : Dc cX6_fewestTurns 33 (.bipush (-2)) 2 35 := ⟨by decide +kernel, rfl⟩
theorem dX6_fewestTurns_35 : Dc cX6_fewestTurns 35 (.ireturn) 1 36 := ⟨by decide +kernel, rfl⟩
theorem dX6_fewestTurns_36 : Dc cX6_fewestTurns 36 (.aload_n 0) 1 37 := ⟨by decide +kernel, rfl⟩
theorem dX6_fewestTurns_37 : Dc cX6_fewestTurns 37 (.getfield 43) 3 40 := ⟨by decide +kernel, rfl⟩
theorem dX6_fewestTurns_40 : Dc cX6_fewestTurns 40 (.aload_n 0) 1 41 := ⟨by decide +kernel, rfl⟩
theorem dX6_fewestTurns_41 : Dc cX6_fewestTurns 41 (.getfield 12) 3 44 := ⟨by decide +kernel, rfl⟩
theorem dX6_fewestTurns_44 : Dc cX6_fewestTurns 44 (.getfield 88) 3 47 := ⟨by decide +kernel, rfl⟩
theorem dX6_fewestTurns_47 : Dc cX6_fewestTurns 47 (.invokevirtual 226) 3 50 := ⟨by decide +kernel, rfl⟩
theorem dX6_fewestTurns_50 : Dc cX6_fewestTurns 50 (.aload_n 0) 1 51 := ⟨by decide +kernel, rfl⟩
theorem dX6_fewestTurns_51 : Dc cX6_fewestTurns 51 (.getfield 36) 3 54 := ⟨by decide +kernel, rfl⟩
theorem dX6_fewestTurns_54 : Dc cX6_fewestTurns 54 (.invokevirtual 242) 3 57 := ⟨by decide +kernel, rfl⟩
theorem dX6_fewestTurns_57 : Dc cX6_fewestTurns 57 (.iconst 1) 1 58 := ⟨by decide +kernel, rfl⟩
theorem dX6_fewestTurns_58 : Dc cX6_fewestTurns 58 (.istore 4) 2 60 := ⟨by decide +kernel, rfl⟩
theorem dX6_fewestTurns_60 : Dc cX6_fewestTurns 60 (.iconst 0) 1 61 := ⟨by decide +kernel, rfl⟩
theorem dX6_fewestTurns_61 : Dc cX6_fewestTurns 61 (.istore 5) 2 63 := ⟨by decide +kernel, rfl⟩
theorem dX6_fewestTurns_63 : Dc cX6_fewestTurns 63 (.iload 4) 2 65 := ⟨by decide +kernel, rfl⟩
theorem dX6_fewestTurns_65 : Db cX6_fewestTurns 65 (fun o => .ifCond .eq o) 68 121 := ⟨56, by decide +kernel, rfl, rfl⟩
theorem dX6_fewestTurns_68 : Dc cX6_fewestTurns 68 (.iload 5) 2 70 := ⟨by decide +kernel, rfl⟩
theorem dX6_fewestTurns_70 : Dc cX6_fewestTurns 70 (.bipush 99) 2 72 := ⟨by decide +kernel, rfl⟩
theorem dX6_fewestTurns_72 : Db cX6_fewestTurns 72 (fun o => .if_icmp .ge o) 75 121 := ⟨49, by decide +kernel, rfl, rfl⟩
theorem dX6_fewestTurns_75 : Dc cX6_fewestTurns 75 (.aload_n 0) 1 76 := ⟨by decide +kernel, rfl⟩
theorem dX6_fewestTurns_76 : Dc cX6_fewestTurns 76 (.getfield 36) 3 79 := ⟨by decide +kernel, rfl⟩
theorem dX6_fewestTurns_79 : Dc cX6_fewestTurns 79 (.aload_n 0) 1 80 := ⟨by decide +kernel, rfl⟩
theorem dX6_fewestTurns_80 : Dc cX6_fewestTurns 80 (.getfield 43) 3 83 := ⟨by decide +kernel, rfl⟩
theorem dX6_fewestTurns_83 : Dc cX6_fewestTurns 83 (.aload_n 0) 1 84 := ⟨by decide +kernel, rfl⟩
theorem dX6_fewestTurns_84 : Dc cX6_fewestTurns 84 (.getfield 12) 3 87 := ⟨by decide +kernel, rfl⟩
theorem dX6_fewestTurns_87 : Dc cX6_fewestTurns 87 (.getfield 115) 3 90 := ⟨by decide +kernel, rfl⟩
theorem dX6_fewestTurns_90 : Dc cX6_fewestTurns 90 (.iload_n 1) 1 91 := ⟨by decide +kernel, rfl⟩
theorem dX6_fewestTurns_91 : Dc cX6_fewestTurns 91 (.iload 5) 2 93 := ⟨by decide +kernel, rfl⟩
theorem dX6_fewestTurns_93 : Dc cX6_fewestTurns 93 (.invokevirtual 245) 3 96 := ⟨by decide +kernel, rfl⟩
theorem dX6_fewestTurns_96 : Dc cX6_fewestTurns 96 (.istore 4) 2 98 := ⟨by decide +kernel, rfl⟩
theorem dX6_fewestTurns_98 : Dc cX6_fewestTurns 98 (.aload_n 0) 1 99 := ⟨by decide +kernel, rfl⟩
theorem dX6_fewestTurns_99 : Dc cX6_fewestTurns 99 (.getfield 43) 3 102 := ⟨by decide +kernel, rfl⟩
theorem dX6_fewestTurns_102 : Dc cX6_fewestTurns 102 (.iload_n 2) 1 103 := ⟨by decide +kernel, rfl⟩
theorem dX6_fewestTurns_103 : Dc cX6_fewestTurns 103 (.invokevirtual 178) 3 106 := ⟨by decide +kernel, rfl⟩
theorem dX6_fewestTurns_106 : Dc cX6_fewestTurns 106 (.iload_n 3) 1 107 := ⟨by decide +kernel, rfl⟩
theorem dX6_fewestTurns_107 : Db cX6_fewestTurns 107 (fun o => .if_icmp .ne o) 110 115 := ⟨8, by decide +kernel, rfl, rfl⟩
theorem dX6_fewestTurns_110 : Dc cX6_fewestTurns 110 (.iload 5) 2 112 := ⟨by decide +kernel, rfl⟩
theorem dX6_fewestTurns_112 : Dc cX6_fewestTurns 112 (.iconst 1) 1 113 := ⟨by decide +kernel, rfl⟩
theorem dX6_fewestTurns_113 : Dc cX6_fewestTurns 113 (.iadd) 1 114 := ⟨by decide +kernel, rfl⟩
theorem dX6_fewestTurns_114 : Dc cX6_fewestTurns 114 (.ireturn) 1 115 := ⟨by decide +kernel, rfl⟩
theorem dX6_fewestTurns_115 : Dc cX6_fewestTurns 115 (.iinc 5 1) 3 118 := ⟨by decide +kernel, rfl⟩
theorem dX6_fewestTurns_118 : Db cX6_fewestTurns 118 .goto 121 63 := ⟨-55, by decide +kernel, rfl, rfl⟩
theorem dX6_fewestTurns_121 : Dc cX6_fewestTurns 121 (.bipush (-5)) 2 123 := ⟨by decide +kernel, rfl⟩
theorem dX6_fewestTurns_123 : Dc cX6_fewestTurns 123 (.ireturn) 1 124 := ⟨by decide +kernel, rfl⟩
theorem dX6_isVerb_0 : Dc cX6_isVerb 0 (.iload_n 0) 1 1 := ⟨by decide +kernel, rfl⟩
theorem dX6_isVerb_1 : Db cX6_isVerb 1 (fun o => .ifCond .lt o) 4 13 := ⟨12, by decide +kernel, rfl, rfl⟩
theorem dX6_isVerb_4 : Dc cX6_isVerb 4 (.iload_n 0) 1 5 := ⟨by decide +kernel, rfl⟩
theorem dX6_isVerb_5 : Dc cX6_isVerb 5 (.iconst 5) 1 6 := ⟨by decide +kernel, rfl⟩
theorem dX6_isVerb_6 : Db cX6_isVerb 6 (fun o => .if_icmp .gt o) 9 13 := ⟨7, by decide +kernel, rfl, rfl⟩
theorem dX6_isVerb_9 : Dc cX6_isVerb 9 (.iconst 1) 1 10 := ⟨by decide +kernel, rfl⟩
theorem dX6_isVerb_10 : Db cX6_isVerb 10 .goto 13 14 := ⟨4, by decide +kernel, rfl, rfl⟩
theorem dX6_isVerb_13 : Dc cX6_isVerb 13 (.iconst 0) 1 14 := ⟨by decide +kernel, rfl⟩
theorem dX6_isVerb_14 : Dc cX6_isVerb 14 (.ireturn) 1 15 := ⟨by decide +kernel, rfl⟩
theorem dX6_isCell_0 : Dc cX6_isCell 0 (.iload_n 0) 1 1 := ⟨by decide +kernel, rfl⟩
theorem dX6_isCell_1 : Db cX6_isCell 1 (fun o => .ifCond .lt o) 4 14 := ⟨13, by decide +kernel, rfl, rfl⟩
theorem dX6_isCell_4 : Dc cX6_isCell 4 (.iload_n 0) 1 5 := ⟨by decide +kernel, rfl⟩
theorem dX6_isCell_5 : Dc cX6_isCell 5 (.bipush 30) 2 7 := ⟨by decide +kernel, rfl⟩
theorem dX6_isCell_7 : Db cX6_isCell 7 (fun o => .if_icmp .ge o) 10 14 := ⟨7, by decide +kernel, rfl, rfl⟩
theorem dX6_isCell_10 : Dc cX6_isCell 10 (.iconst 1) 1 11 := ⟨by decide +kernel, rfl⟩
theorem dX6_isCell_11 : Db cX6_isCell 11 .goto 14 15 := ⟨4, by decide +kernel, rfl, rfl⟩
theorem dX6_isCell_14 : Dc cX6_isCell 14 (.iconst 0) 1 15 := ⟨by decide +kernel, rfl⟩
theorem dX6_isCell_15 : Dc cX6_isCell 15 (.ireturn) 1 16 := ⟨by decide +kernel, rfl⟩
theorem dX6_isTurns_0 : Dc cX6_isTurns 0 (.iload_n 0) 1 1 := ⟨by decide +kernel, rfl⟩
theorem dX6_isTurns_1 : Dc cX6_isTurns 1 (.iconst 1) 1 2 := ⟨by decide +kernel, rfl⟩
theorem dX6_isTurns_2 : Db cX6_isTurns 2 (fun o => .if_icmp .lt o) 5 15 := ⟨13, by decide +kernel, rfl, rfl⟩
theorem dX6_isTurns_5 : Dc cX6_isTurns 5 (.iload_n 0) 1 6 := ⟨by decide +kernel, rfl⟩
theorem dX6_isTurns_6 : Dc cX6_isTurns 6 (.bipush 99) 2 8 := ⟨by decide +kernel, rfl⟩
theorem dX6_isTurns_8 : Db cX6_isTurns 8 (fun o => .if_icmp .gt o) 11 15 := ⟨7, by decide +kernel, rfl, rfl⟩
theorem dX6_isTurns_11 : Dc cX6_isTurns 11 (.iconst 1) 1 12 := ⟨by decide +kernel, rfl⟩
theorem dX6_isTurns_12 : Db cX6_isTurns 12 .goto 15 16 := ⟨4, by decide +kernel, rfl, rfl⟩
theorem dX6_isTurns_15 : Dc cX6_isTurns 15 (.iconst 0) 1 16 := ⟨by decide +kernel, rfl⟩
theorem dX6_isTurns_16 : Dc cX6_isTurns 16 (.ireturn) 1 17 := ⟨by decide +kernel, rfl⟩
theorem dX6_greatestNumber_0 : Dc cX6_greatestNumber 0 (.iload_n 0) 1 1 := ⟨by decide +kernel, rfl⟩
theorem dX6_greatestNumber_1 : Db cX6_greatestNumber 1 (fun o => .ifCond .eq o) 4 14 := ⟨13, by decide +kernel, rfl, rfl⟩
theorem dX6_greatestNumber_4 : Dc cX6_greatestNumber 4 (.iload_n 0) 1 5 := ⟨by decide +kernel, rfl⟩
theorem dX6_greatestNumber_5 : Dc cX6_greatestNumber 5 (.iconst 3) 1 6 := ⟨by decide +kernel, rfl⟩
theorem dX6_greatestNumber_6 : Db cX6_greatestNumber 6 (fun o => .if_icmp .eq o) 9 14 := ⟨8, by decide +kernel, rfl, rfl⟩
theorem dX6_greatestNumber_9 : Dc cX6_greatestNumber 9 (.iload_n 0) 1 10 := ⟨by decide +kernel, rfl⟩
theorem dX6_greatestNumber_10 : Dc cX6_greatestNumber 10 (.iconst 4) 1 11 := ⟨by decide +kernel, rfl⟩
theorem dX6_greatestNumber_11 : Db cX6_greatestNumber 11 (fun o => .if_icmp .ne o) 14 18 := ⟨7, by decide +kernel, rfl, rfl⟩
theorem dX6_greatestNumber_14 : Dc cX6_greatestNumber 14 (.iconst 1) 1 15 := ⟨by decide +kernel, rfl⟩
theorem dX6_greatestNumber_15 : Db cX6_greatestNumber 15 .goto 18 19 := ⟨4, by decide +kernel, rfl, rfl⟩
theorem dX6_greatestNumber_18 : Dc cX6_greatestNumber 18 (.iconst 0) 1 19 := ⟨by decide +kernel, rfl⟩
theorem dX6_greatestNumber_19 : Dc cX6_greatestNumber 19 (.istore_n 1) 1 20 := ⟨by decide +kernel, rfl⟩
theorem dX6_greatestNumber_20 : Dc cX6_greatestNumber 20 (.iload_n 1) 1 21 := ⟨by decide +kernel, rfl⟩
theorem dX6_greatestNumber_21 : Db cX6_greatestNumber 21 (fun o => .ifCond .eq o) 24 29 := ⟨8, by decide +kernel, rfl, rfl⟩
theorem dX6_greatestNumber_24 : Dc cX6_greatestNumber 24 (.bipush 29) 2 26 := ⟨by decide +kernel, rfl⟩
theorem dX6_greatestNumber_26 : Db cX6_greatestNumber 26 .goto 29 31 := ⟨5, by decide +kernel, rfl, rfl⟩
theorem dX6_greatestNumber_29 : Dc cX6_greatestNumber 29 (.bipush 99) 2 31 := ⟨by decide +kernel, rfl⟩
theorem dX6_greatestNumber_31 : Dc cX6_greatestNumber 31 (.ireturn) 1 32 := ⟨by decide +kernel, rfl⟩
theorem dX6_inRange_0 : Dc cX6_inRange 0 (.iload_n 1) 1 1 := ⟨by decide +kernel, rfl⟩
theorem dX6_inRange_1 : Db cX6_inRange 1 (fun o => .ifCond .lt o) 4 16 := ⟨15, by decide +kernel, rfl, rfl⟩
theorem dX6_inRange_4 : Dc cX6_inRange 4 (.iload_n 1) 1 5 := ⟨by decide +kernel, rfl⟩
theorem dX6_inRange_5 : Dc cX6_inRange 5 (.iload_n 0) 1 6 := ⟨by decide +kernel, rfl⟩
theorem dX6_inRange_6 : Dc cX6_inRange 6 (.invokestatic 249) 3 9 := ⟨by decide +kernel, rfl⟩
theorem dX6_inRange_9 : Db cX6_inRange 9 (fun o => .if_icmp .gt o) 12 16 := ⟨7, by decide +kernel, rfl, rfl⟩
theorem dX6_inRange_12 : Dc cX6_inRange 12 (.iconst 1) 1 13 := ⟨by decide +kernel, rfl⟩
theorem dX6_inRange_13 : Db cX6_inRange 13 .goto 16 17 := ⟨4, by decide +kernel, rfl, rfl⟩
theorem dX6_inRange_16 : Dc cX6_inRange 16 (.iconst 0) 1 17 := ⟨by decide +kernel, rfl⟩
theorem dX6_inRange_17 : Dc cX6_inRange 17 (.ireturn) 1 18 := ⟨by decide +kernel, rfl⟩
theorem dX6_canGeneralise_0 : Dc cX6_canGeneralise 0 (.iload_n 1) 1 1 := ⟨by decide +kernel, rfl⟩
theorem dX6_canGeneralise_1 : Dc cX6_canGeneralise 1 (.iload_n 2) 1 2 := ⟨by decide +kernel, rfl⟩
theorem dX6_canGeneralise_2 : Db cX6_canGeneralise 2 (fun o => .if_icmp .eq o) 5 24 := ⟨22, by decide +kernel, rfl, rfl⟩
theorem dX6_canGeneralise_5 : Dc cX6_canGeneralise 5 (.aload_n 0) 1 6 := ⟨by decide +kernel, rfl⟩
theorem dX6_canGeneralise_6 : Dc cX6_canGeneralise 6 (.getfield 12) 3 9 := ⟨by decide +kernel, rfl⟩
theorem dX6_canGeneralise_9 : Dc cX6_canGeneralise 9 (.getfield 74) 3 12 := ⟨by decide +kernel, rfl⟩
theorem dX6_canGeneralise_12 : Dc cX6_canGeneralise 12 (.iload_n 1) 1 13 := ⟨by decide +kernel, rfl⟩
theorem dX6_canGeneralise_13 : Dc cX6_canGeneralise 13 (.iload_n 2) 1 14 := ⟨by decide +kernel, rfl⟩
theorem dX6_canGeneralise_14 : Dc cX6_canGeneralise 14 (.invokevirtual 252) 3 17 := ⟨by decide +kernel, rfl⟩
theorem dX6_canGeneralise_17 : Db cX6_canGeneralise 17 (fun o => .ifCond .eq o) 20 24 := ⟨7, by decide +kernel, rfl, rfl⟩
theorem dX6_canGeneralise_20 : Dc cX6_canGeneralise 20 (.iconst 1) 1 21 := ⟨by decide +kernel, rfl⟩
theorem dX6_canGeneralise_21 : Db cX6_canGeneralise 21 .goto 24 25 := ⟨4, by decide +kernel, rfl, rfl⟩
theorem dX6_canGeneralise_24 : Dc cX6_canGeneralise 24 (.iconst 0) 1 25 := ⟨by decide +kernel, rfl⟩
theorem dX6_canGeneralise_25 : Dc cX6_canGeneralise 25 (.ireturn) 1 26 := ⟨by decide +kernel, rfl⟩
theorem dX6_countZeroStrides_0 : Dc cX6_countZeroStrides 0 (.iconst 0) 1 1 := ⟨by decide +kernel, rfl⟩
theorem dX6_countZeroStrides_1 : Dc cX6_countZeroStrides 1 (.istore_n 3) 1 2 := ⟨by decide +kernel, rfl⟩
theorem dX6_countZeroStrides_2 : Dc cX6_countZeroStrides 2 (.aload_n 0) 1 3 := ⟨by decide +kernel, rfl⟩
theorem dX6_countZeroStrides_3 : Dc cX6_countZeroStrides 3 (.getfield 12) 3 6 := ⟨by decide +kernel, rfl⟩
theorem dX6_countZeroStrides_6 : Dc cX6_countZeroStrides 6 (.getfield 74) 3 9 := ⟨by decide +kernel, rfl⟩
theorem dX6_countZeroStrides_9 : Dc cX6_countZeroStrides 9 (.iload_n 1) 1 10 := ⟨by decide +kernel, rfl⟩
theorem dX6_countZeroStrides_10 : Dc cX6_countZeroStrides 10 (.invokevirtual 118) 3 13 := ⟨by decide +kernel, rfl⟩
theorem dX6_countZeroStrides_13 : Dc cX6_countZeroStrides 13 (.istore 4) 2 15 := ⟨by decide +kernel, rfl⟩
theorem dX6_countZeroStrides_15 : Dc cX6_countZeroStrides 15 (.iconst 0) 1 16 := ⟨by decide +kernel, rfl⟩
theorem dX6_countZeroStrides_16 : Dc cX6_countZeroStrides 16 (.istore 5) 2 18 := ⟨by decide +kernel, rfl⟩
theorem dX6_countZeroStrides_18 : Dc cX6_countZeroStrides 18 (.iload 5) 2 20 := ⟨by decide +kernel, rfl⟩
theorem dX6_countZeroStrides_20 : Dc cX6_countZeroStrides 20 (.iload 4) 2 22 := ⟨by decide +kernel, rfl⟩
theorem dX6_countZeroStrides_22 : Db cX6_countZeroStrides 22 (fun o => .if_icmp .ge o) 25 63 := ⟨41, by decide +kernel, rfl, rfl⟩
theorem dX6_countZeroStrides_25 : Dc cX6_countZeroStrides 25 (.aload_n 0) 1 26 := ⟨by decide +kernel, rfl⟩
theorem dX6_countZeroStrides_26 : Dc cX6_countZeroStrides 26 (.getfield 12) 3 29 := ⟨by decide +kernel, rfl⟩
theorem dX6_countZeroStrides_29 : Dc cX6_countZeroStrides 29 (.getfield 74) 3 32 := ⟨by decide +kernel, rfl⟩
theorem dX6_countZeroStrides_32 : Dc cX6_countZeroStrides 32 (.iload_n 1) 1 33 := ⟨by decide +kernel, rfl⟩
theorem dX6_countZeroStrides_33 : Dc cX6_countZeroStrides 33 (.iload 5) 2 35 := ⟨by decide +kernel, rfl⟩
theorem dX6_countZeroStrides_35 : Dc cX6_countZeroStrides 35 (.invokevirtual 161) 3 38 := ⟨by decide +kernel, rfl⟩
theorem dX6_countZeroStrides_38 : Dc cX6_countZeroStrides 38 (.aload_n 0) 1 39 := ⟨by decide +kernel, rfl⟩
theorem dX6_countZeroStrides_39 : Dc cX6_countZeroStrides 39 (.getfield 12) 3 42 := ⟨by decide +kernel, rfl⟩
theorem dX6_countZeroStrides_42 : Dc cX6_countZeroStrides 42 (.getfield 74) 3 45 := ⟨by decide +kernel, rfl⟩
theorem dX6_countZeroStrides_45 : Dc cX6_countZeroStrides 45 (.iload_n 2) 1 46 := ⟨by decide +kernel, rfl⟩
theorem dX6_countZeroStrides_46 : Dc cX6_countZeroStrides 46 (.iload 5) 2 48 := ⟨by decide +kernel, rfl⟩
theorem dX6_countZeroStrides_48 : Dc cX6_countZeroStrides 48 (.invokevirtual 161) 3 51 := ⟨by decide +kernel, rfl⟩
theorem dX6_countZeroStrides_51 : Db cX6_countZeroStrides 51 (fun o => .if_icmp .ne o) 54 57 := ⟨6, by decide +kernel, rfl, rfl⟩
theorem dX6_countZeroStrides_54 : Dc cX6_countZeroStrides 54 (.iinc 3 1) 3 57 := ⟨by decide +kernel, rfl⟩
theorem dX6_countZeroStrides_57 : Dc cX6_countZeroStrides 57 (.iinc 5 1) 3 60 := ⟨by decide +kernel, rfl⟩
theorem dX6_countZeroStrides_60 : Db cX6_countZeroStrides 60 .goto 63 18 := ⟨-42, by decide +kernel, rfl, rfl⟩
theorem dX6_countZeroStrides_63 : Dc cX6_countZeroStrides 63 (.iload_n 3) 1 64 := ⟨by decide +kernel, rfl⟩
theorem dX6_countZeroStrides_64 : Dc cX6_countZeroStrides 64 (.ireturn) 1 65 := ⟨by decide +kernel, rfl⟩
theorem dX6_countVerbRows_0 : Dc cX6_countVerbRows 0 (.iconst 0) 1 1 := ⟨by decide +kernel, rfl⟩
theorem dX6_countVerbRows_1 : Dc cX6_countVerbRows 1 (.istore_n 1) 1 2 := ⟨by decide +kernel, rfl⟩
theorem dX6_countVerbRows_2 : Dc cX6_countVerbRows 2 (.iconst 0) 1 3 := ⟨by decide +kernel, rfl⟩
theorem dX6_countVerbRows_3 : Dc cX6_countVerbRows 3 (.istore_n 2) 1 4 := ⟨by decide +kernel, rfl⟩
theorem dX6_countVerbRows_4 : Dc cX6_countVerbRows 4 (.iload_n 2) 1 5 := ⟨by decide +kernel, rfl⟩
theorem dX6_countVerbRows_5 : Dc cX6_countVerbRows 5 (.aload_n 0) 1 6 := ⟨by decide +kernel, rfl⟩
theorem dX6_countVerbRows_6 : Dc cX6_countVerbRows 6 (.getfield 12) 3 9 := ⟨by decide +kernel, rfl⟩
theorem dX6_countVerbRows_9 : Dc cX6_countVerbRows 9 (.getfield 74) 3 12 := ⟨by decide +kernel, rfl⟩
theorem dX6_countVerbRows_12 : Dc cX6_countVerbRows 12 (.getfield 78) 3 15 := ⟨by decide +kernel, rfl⟩
theorem dX6_countVerbRows_15 : Db cX6_countVerbRows 15 (fun o => .if_icmp .ge o) 18 74 := ⟨59, by decide +kernel, rfl, rfl⟩
theorem dX6_countVerbRows_18 : Dc cX6_countVerbRows 18 (.iconst 1) 1 19 := ⟨by decide +kernel, rfl⟩
theorem dX6_countVerbRows_19 : Dc cX6_countVerbRows 19 (.istore_n 3) 1 20 := ⟨by decide +kernel, rfl⟩
theorem dX6_countVerbRows_20 : Dc cX6_countVerbRows 20 (.iconst 0) 1 21 := ⟨by decide +kernel, rfl⟩
theorem dX6_countVerbRows_21 : Dc cX6_countVerbRows 21 (.istore 4) 2 23 := ⟨by decide +kernel, rfl⟩
theorem dX6_countVerbRows_23 : Dc cX6_countVerbRows 23 (.iload_n 3) 1 24 := ⟨by decide +kernel, rfl⟩
theorem dX6_countVerbRows_24 : Db cX6_countVerbRows 24 (fun o => .ifCond .eq o) 27 61 := ⟨37, by decide +kernel, rfl, rfl⟩
theorem dX6_countVerbRows_27 : Dc cX6_countVerbRows 27 (.iload 4) 2 29 := ⟨by decide +kernel, rfl⟩
theorem dX6_countVerbRows_29 : Dc cX6_countVerbRows 29 (.iload_n 2) 1 30 := ⟨by decide +kernel, rfl⟩
theorem dX6_countVerbRows_30 : Db cX6_countVerbRows 30 (fun o => .if_icmp .ge o) 33 61 := ⟨31, by decide +kernel, rfl, rfl⟩
theorem dX6_countVerbRows_33 : Dc cX6_countVerbRows 33 (.aload_n 0) 1 34 := ⟨by decide +kernel, rfl⟩
theorem dX6_countVerbRows_34 : Dc cX6_countVerbRows 34 (.getfield 12) 3 37 := ⟨by decide +kernel, rfl⟩
theorem dX6_countVerbRows_37 : Dc cX6_countVerbRows 37 (.getfield 74) 3 40 := ⟨by decide +kernel, rfl⟩
theorem dX6_countVerbRows_40 : Dc cX6_countVerbRows 40 (.iload 4) 2 42 := ⟨by decide +kernel, rfl⟩
theorem dX6_countVerbRows_42 : Dc cX6_countVerbRows 42 (.iload_n 2) 1 43 := ⟨by decide +kernel, rfl⟩
theorem dX6_countVerbRows_43 : Dc cX6_countVerbRows 43 (.invokevirtual 252) 3 46 := ⟨by decide +kernel, rfl⟩
theorem dX6_countVerbRows_46 : Db cX6_countVerbRows 46 (fun o => .ifCond .ne o) 49 53 := ⟨7, by decide +kernel, rfl, rfl⟩
theorem dX6_countVerbRows_49 : Dc cX6_countVerbRows 49 (.iconst 1) 1 50 := ⟨by decide +kernel, rfl⟩
theorem dX6_countVerbRows_50 : Db cX6_countVerbRows 50 .goto 53 54 := ⟨4, by decide +kernel, rfl, rfl⟩
theorem dX6_countVerbRows_53 : Dc cX6_countVerbRows 53 (.iconst 0) 1 54 := ⟨by decide +kernel, rfl⟩
theorem dX6_countVerbRows_54 : Dc cX6_countVerbRows 54 (.istore_n 3) 1 55 := ⟨by decide +kernel, rfl⟩
theorem dX6_countVerbRows_55 : Dc cX6_countVerbRows 55 (.iinc 4 1) 3 58 := ⟨by decide +kernel, rfl⟩
theorem dX6_countVerbRows_58 : Db cX6_countVerbRows 58 .goto 61 23 := ⟨-35, by decide +kernel, rfl, rfl⟩
theorem dX6_countVerbRows_61 : Dc cX6_countVerbRows 61 (.iload_n 3) 1 62 := ⟨by decide +kernel, rfl⟩
theorem dX6_countVerbRows_62 : Db cX6_countVerbRows 62 (fun o => .ifCond .eq o) 65 68 := ⟨6, by decide +kernel, rfl, rfl⟩
theorem dX6_countVerbRows_65 : Dc cX6_countVerbRows 65 (.iinc 1 1) 3 68 := ⟨by decide +kernel, rfl⟩
theorem dX6_countVerbRows_68 : Dc cX6_countVerbRows 68 (.iinc 2 1) 3 71 := ⟨by decide +kernel, rfl⟩
theorem dX6_countVerbRows_71 : Db cX6_countVerbRows 71 .goto 74 4 := ⟨-67, by decide +kernel, rfl, rfl⟩
theorem dX6_countVerbRows_74 : Dc cX6_countVerbRows 74 (.iload_n 1) 1 75 := ⟨by decide +kernel, rfl⟩
theorem dX6_countVerbRows_75 : Dc cX6_countVerbRows 75 (.ireturn) 1 76 := ⟨by decide +kernel, rfl⟩
theorem dX6_countCommon_0 : Dc cX6_countCommon 0 (.aload_n 0) 1 1 := ⟨by decide +kernel, rfl⟩
theorem dX6_countCommon_1 : Dc cX6_countCommon 1 (.getfield 12) 3 4 := ⟨by decide +kernel, rfl⟩
theorem dX6_countCommon_4 : Dc cX6_countCommon 4 (.getfield 74) 3 7 := ⟨by decide +kernel, rfl⟩
theorem dX6_countCommon_7 : Dc cX6_countCommon 7 (.iload_n 2) 1 8 := ⟨by decide +kernel, rfl⟩
theorem dX6_countCommon_8 : Dc cX6_countCommon 8 (.invokevirtual 118) 3 11 := ⟨by decide +kernel, rfl⟩
theorem dX6_countCommon_11 : Dc cX6_countCommon 11 (.aload_n 0) 1 12 := ⟨by decide +kernel, rfl⟩
theorem dX6_countCommon_12 : Dc cX6_countCommon 12 (.getfield 47) 3 15 := ⟨by decide +kernel, rfl⟩
theorem dX6_countCommon_15 : Dc cX6_countCommon 15 (.arraylength) 1 16 := ⟨by decide +kernel, rfl⟩
theorem dX6_countCommon_16 : Dc cX6_countCommon 16 (.iconst 1) 1 17 := ⟨by decide +kernel, rfl⟩
theorem dX6_countCommon_17 : Dc cX6_countCommon 17 (.isub) 1 18 := ⟨by decide +kernel, rfl⟩
theorem dX6_countCommon_18 : Dc cX6_countCommon 18 (.invokestatic 255) 3 21 := ⟨by decide +kernel, rfl⟩
theorem dX6_countCommon_21 : Dc cX6_countCommon 21 (.istore 4) 2 23 := ⟨by decide +kernel, rfl⟩
theorem dX6_countCommon_23 : Dc cX6_countCommon 23 (.iconst 0) 1 24 := ⟨by decide +kernel, rfl⟩
theorem dX6_countCommon_24 : Dc cX6_countCommon 24 (.istore 5) 2 26 := ⟨by decide +kernel, rfl⟩
theorem dX6_countCommon_26 : Dc cX6_countCommon 26 (.iload 5) 2 28 := ⟨by decide +kernel, rfl⟩
theorem dX6_countCommon_28 : Dc cX6_countCommon 28 (.iload 4) 2 30 := ⟨by decide +kernel, rfl⟩
theorem dX6_countCommon_30 : Db cX6_countCommon 30 (fun o => .if_icmp .gt o) 33 47 := ⟨17, by decide +kernel, rfl, rfl⟩
theorem dX6_countCommon_33 : Dc cX6_countCommon 33 (.aload_n 0) 1 34 := ⟨by decide +kernel, rfl⟩
theorem dX6_countCommon_34 : Dc cX6_countCommon 34 (.getfield 47) 3 37 := ⟨by decide +kernel, rfl⟩
theorem dX6_countCommon_37 : Dc cX6_countCommon 37 (.iload 5) 2 39 := ⟨by decide +kernel, rfl⟩
theorem dX6_countCommon_39 : Dc cX6_countCommon 39 (.iconst 0) 1 40 := ⟨by decide +kernel, rfl⟩
theorem dX6_countCommon_40 : Dc cX6_countCommon 40 (.iastore) 1 41 := ⟨by decide +kernel, rfl⟩
theorem dX6_countCommon_41 : Dc cX6_countCommon 41 (.iinc 5 1) 3 44 := ⟨by decide +kernel, rfl⟩
theorem dX6_countCommon_44 : Db cX6_countCommon 44 .goto 47 26 := ⟨-18, by decide +kernel, rfl, rfl⟩
theorem dX6_countCommon_47 : Dc cX6_countCommon 47 (.aload_n 0) 1 48 := ⟨by decide +kernel, rfl⟩
theorem dX6_countCommon_48 : Dc cX6_countCommon 48 (.getfield 12) 3 51 := ⟨by decide +kernel, rfl⟩
theorem dX6_countCommon_51 : Dc cX6_countCommon 51 (.getfield 74) 3 54 := ⟨by decide +kernel, rfl⟩
theorem dX6_countCommon_54 : Dc cX6_countCommon 54 (.iload_n 1) 1 55 := ⟨by decide +kernel, rfl⟩
theorem dX6_countCommon_55 : Dc cX6_countCommon 55 (.invokevirtual 118) 3 58 := ⟨by decide +kernel, rfl⟩
theorem dX6_countCommon_58 : Dc cX6_countCommon 58 (.istore 5) 2 60 := ⟨by decide +kernel, rfl⟩
theorem dX6_countCommon_60 : Dc cX6_countCommon 60 (.iconst 0) 1 61 := ⟨by decide +kernel, rfl⟩
theorem dX6_countCommon_61 : Dc cX6_countCommon 61 (.istore 6) 2 63 := ⟨by decide +kernel, rfl⟩
theorem dX6_countCommon_63 : Dc cX6_countCommon 63 (.iload 6) 2 65 := ⟨by decide +kernel, rfl⟩
theorem dX6_countCommon_65 : Dc cX6_countCommon 65 (.iload 5) 2 67 := ⟨by decide +kernel, rfl⟩
theorem dX6_countCommon_67 : Db cX6_countCommon 67 (fun o => .if_icmp .ge o) 70 159 := ⟨92, by decide +kernel, rfl, rfl⟩
theorem dX6_countCommon_70 : Dc cX6_countCommon 70 (.iconst 0) 1 71 := ⟨by decide +kernel, rfl⟩
theorem dX6_countCommon_71 : Dc cX6_countCommon 71 (.istore 7) 2 73 := ⟨by decide +kernel, rfl⟩
theorem dX6_countCommon_73 : Dc cX6_countCommon 73 (.iconst 1) 1 74 := ⟨by decide +kernel, rfl⟩
theorem dX6_countCommon_74 : Dc cX6_countCommon 74 (.istore 8) 2 76 := ⟨by decide +kernel, rfl⟩
theorem dX6_countCommon_76 : Dc cX6_countCommon 76 (.iload 8) 2 78 := ⟨by decide +kernel, rfl⟩
theorem dX6_countCommon_78 : Dc cX6_countCommon 78 (.iload 4) 2 80 := ⟨by decide +kernel, rfl⟩
theorem dX6_countCommon_80 : Db cX6_countCommon 80 (fun o => .if_icmp .gt o) 83 153 := ⟨73, by decide +kernel, rfl, rfl⟩
theorem dX6_countCommon_83 : Dc cX6_countCommon 83 (.aload_n 0) 1 84 := ⟨by decide +kernel, rfl⟩
theorem dX6_countCommon_84 : Dc cX6_countCommon 84 (.getfield 47) 3 87 := ⟨by decide +kernel, rfl⟩
theorem dX6_countCommon_87 : Dc cX6_countCommon 87 (.iload 8) 2 89 := ⟨by decide +kernel, rfl⟩
theorem dX6_countCommon_89 : Dc cX6_countCommon 89 (.iaload) 1 90 := ⟨by decide +kernel, rfl⟩
theorem dX6_countCommon_90 : Dc cX6_countCommon 90 (.istore 9) 2 92 := ⟨by decide +kernel, rfl⟩
theorem dX6_countCommon_92 : Dc cX6_countCommon 92 (.aload_n 0) 1 93 := ⟨by decide +kernel, rfl⟩
theorem dX6_countCommon_93 : Dc cX6_countCommon 93 (.iload_n 1) 1 94 := ⟨by decide +kernel, rfl⟩
theorem dX6_countCommon_94 : Dc cX6_countCommon 94 (.iload 6) 2 96 := ⟨by decide +kernel, rfl⟩
theorem dX6_countCommon_96 : Dc cX6_countCommon 96 (.iload_n 2) 1 97 := ⟨by decide +kernel, rfl⟩
theorem dX6_countCommon_97 : Dc cX6_countCommon 97 (.iload 8) 2 99 := ⟨by decide +kernel, rfl⟩
theorem dX6_countCommon_99 : Dc cX6_countCommon 99 (.iconst 1) 1 100 := ⟨by decide +kernel, rfl⟩
theorem dX6_countCommon_100 : Dc cX6_countCommon 100 (.isub) 1 101 := ⟨by decide +kernel, rfl⟩
theorem dX6_countCommon_101 : Dc cX6_countCommon 101 (.iload_n 3) 1 102 := ⟨by decide +kernel, rfl⟩
theorem dX6_countCommon_102 : Dc cX6_countCommon 102 (.invokevirtual 260) 3 105 := ⟨by decide +kernel, rfl⟩
theorem dX6_countCommon_105 : Db cX6_countCommon 105 (fun o => .ifCond .eq o) 108 122 := ⟨17, by decide +kernel, rfl, rfl⟩
theorem dX6_countCommon_108 : Dc cX6_countCommon 108 (.aload_n 0) 1 109 := ⟨by decide +kernel, rfl⟩
theorem dX6_countCommon_109 : Dc cX6_countCommon 109 (.getfield 47) 3 112 := ⟨by decide +kernel, rfl⟩
theorem dX6_countCommon_112 : Dc cX6_countCommon 112 (.iload 8) 2 114 := ⟨by decide +kernel, rfl⟩
theorem dX6_countCommon_114 : Dc cX6_countCommon 114 (.iload 7) 2 116 := ⟨by decide +kernel, rfl⟩
theorem dX6_countCommon_116 : Dc cX6_countCommon 116 (.iconst 1) 1 117 := ⟨by decide +kernel, rfl⟩
theorem dX6_countCommon_117 : Dc cX6_countCommon 117 (.iadd) 1 118 := ⟨by decide +kernel, rfl⟩
theorem dX6_countCommon_118 : Dc cX6_countCommon 118 (.iastore) 1 119 := ⟨by decide +kernel, rfl⟩
theorem dX6_countCommon_119 : Db cX6_countCommon 119 .goto 122 143 := ⟨24, by decide +kernel, rfl, rfl⟩
theorem dX6_countCommon_122 : Dc cX6_countCommon 122 (.aload_n 0) 1 123 := ⟨by decide +kernel, rfl⟩
theorem dX6_countCommon_123 : Dc cX6_countCommon 123 (.getfield 47) 3 126 := ⟨by decide +kernel, rfl⟩
theorem dX6_countCommon_126 : Dc cX6_countCommon 126 (.iload 8) 2 128 := ⟨by decide +kernel, rfl⟩
theorem dX6_countCommon_128 : Dc cX6_countCommon 128 (.iload 9) 2 130 := ⟨by decide +kernel, rfl⟩
theorem dX6_countCommon_130 : Dc cX6_countCommon 130 (.aload_n 0) 1 131 := ⟨by decide +kernel, rfl⟩
theorem dX6_countCommon_131 : Dc cX6_countCommon 131 (.getfield 47) 3 134 := ⟨by decide +kernel, rfl⟩
theorem dX6_countCommon_134 : Dc cX6_countCommon 134 (.iload 8) 2 136 := ⟨by decide +kernel, rfl⟩
theorem dX6_countCommon_136 : Dc cX6_countCommon 136 (.iconst 1) 1 137 := ⟨by decide +kernel, rfl⟩
theorem dX6_countCommon_137 : Dc cX6_countCommon 137 (.isub) 1 138 := ⟨by decide +kernel, rfl⟩
theorem dX6_countCommon_138 : Dc cX6_countCommon 138 (.iaload) 1 139 := ⟨by decide +kernel, rfl⟩
theorem dX6_countCommon_139 : Dc cX6_countCommon 139 (.invokestatic 264) 3 142 := ⟨by decide +kernel, rfl⟩
theorem dX6_countCommon_142 : Dc cX6_countCommon 142 (.iastore) 1 143 := ⟨by decide +kernel, rfl⟩
theorem dX6_countCommon_143 : Dc cX6_countCommon 143 (.iload 9) 2 145 := ⟨by decide +kernel, rfl⟩
theorem dX6_countCommon_145 : Dc cX6_countCommon 145 (.istore 7) 2 147 := ⟨by decide +kernel, rfl⟩
theorem dX6_countCommon_147 : Dc cX6_countCommon 147 (.iinc 8 1) 3 150 := ⟨by decide +kernel, rfl⟩
theorem dX6_countCommon_150 : Db cX6_countCommon 150 .goto 153 76 := ⟨-74, by decide +kernel, rfl, rfl⟩
theorem dX6_countCommon_153 : Dc cX6_countCommon 153 (.iinc 6 1) 3 156 := ⟨by decide +kernel, rfl⟩
theorem dX6_countCommon_156 : Db cX6_countCommon 156 .goto 159 63 := ⟨-93, by decide +kernel, rfl, rfl⟩
theorem dX6_countCommon_159 : Dc cX6_countCommon 159 (.iload 4) 2 161 := ⟨by decide +kernel, rfl⟩
theorem dX6_countCommon_161 : Db cX6_countCommon 161 (fun o => .ifCond .ge o) 164 168 := ⟨7, by decide +kernel, rfl, rfl⟩
theorem dX6_countCommon_164 : Dc cX6_countCommon 164 (.iconst 0) 1 165 := ⟨by decide +kernel, rfl⟩
theorem dX6_countCommon_165 : Db cX6_countCommon 165 .goto 168 175 := ⟨10, by decide +kernel, rfl, rfl⟩
theorem dX6_countCommon_168 : Dc cX6_countCommon 168 (.aload_n 0) 1 169 := ⟨by decide +kernel, rfl⟩
theorem dX6_countCommon_169 : Dc cX6_countCommon 169 (.getfield 47) 3 172 := ⟨by decide +kernel, rfl⟩
theorem dX6_countCommon_172 : Dc cX6_countCommon 172 (.iload 4) 2 174 := ⟨by decide +kernel, rfl⟩
theorem dX6_countCommon_174 : Dc cX6_countCommon 174 (.iaload) 1 175 := ⟨by decide +kernel, rfl⟩
theorem dX6_countCommon_175 : Dc cX6_countCommon 175 (.ireturn) 1 176 := ⟨by decide +kernel, rfl⟩
theorem dX6_areAlike_0 : Dc cX6_areAlike 0 (.aload_n 0) 1 1 := ⟨by decide +kernel, rfl⟩
theorem dX6_areAlike_1 : Dc cX6_areAlike 1 (.getfield 12) 3 4 := ⟨by decide +kernel, rfl⟩
theorem dX6_areAlike_4 : Dc cX6_areAlike 4 (.getfield 74) 3 7 := ⟨by decide +kernel, rfl⟩
theorem dX6_areAlike_7 : Dc cX6_areAlike 7 (.astore 6) 2 9 := ⟨by decide +kernel, rfl⟩
theorem dX6_areAlike_9 : Dc cX6_areAlike 9 (.aload 6) 2 11 := ⟨by decide +kernel, rfl⟩
theorem dX6_areAlike_11 : Dc cX6_areAlike 11 (.iload_n 1) 1 12 := ⟨by decide +kernel, rfl⟩
theorem dX6_areAlike_12 : Dc cX6_areAlike 12 (.iload_n 2) 1 13 := ⟨by decide +kernel, rfl⟩
theorem dX6_areAlike_13 : Dc cX6_areAlike 13 (.invokevirtual 157) 3 16 := ⟨by decide +kernel, rfl⟩
theorem dX6_areAlike_16 : Dc cX6_areAlike 16 (.aload 6) 2 18 := ⟨by decide +kernel, rfl⟩
theorem dX6_areAlike_18 : Dc cX6_areAlike 18 (.iload_n 3) 1 19 := ⟨by decide +kernel, rfl⟩
theorem dX6_areAlike_19 : Dc cX6_areAlike 19 (.iload 4) 2 21 := ⟨by decide +kernel, rfl⟩
theorem dX6_areAlike_21 : Dc cX6_areAlike 21 (.invokevirtual 157) 3 24 := ⟨by decide +kernel, rfl⟩
theorem dX6_areAlike_24 : Db cX6_areAlike 24 (fun o => .if_icmp .eq o) 27 29 := ⟨5, by decide +kernel, rfl, rfl⟩
theorem dX6_areAlike_27 : Dc cX6_areAlike 27 (.iconst 0) 1 28 := ⟨by decide +kernel, rfl⟩
theorem dX6_areAlike_28 : Dc cX6_areAlike 28 (.ireturn) 1 29 := ⟨by decide +kernel, rfl⟩
theorem dX6_areAlike_29 : Dc cX6_areAlike 29 (.iload 5) 2 31 := ⟨by decide +kernel, rfl⟩
theorem dX6_areAlike_31 : Db cX6_areAlike 31 (fun o => .ifCond .eq o) 34 52 := ⟨21, by decide +kernel, rfl, rfl⟩
theorem dX6_areAlike_34 : Dc cX6_areAlike 34 (.aload 6) 2 36 := ⟨by decide +kernel, rfl⟩
theorem dX6_areAlike_36 : Dc cX6_areAlike 36 (.iload_n 1) 1 37 := ⟨by decide +kernel, rfl⟩
theorem dX6_areAlike_37 : Dc cX6_areAlike 37 (.iload_n 2) 1 38 := ⟨by decide +kernel, rfl⟩
theorem dX6_areAlike_38 : Dc cX6_areAlike 38 (.invokevirtual 161) 3 41 := ⟨by decide +kernel, rfl⟩
theorem dX6_areAlike_41 : Dc cX6_areAlike 41 (.aload 6) 2 43 := ⟨by decide +kernel, rfl⟩
theorem dX6_areAlike_43 : Dc cX6_areAlike 43 (.iload_n 3) 1 44 := ⟨by decide +kernel, rfl⟩
theorem dX6_areAlike_44 : Dc cX6_areAlike 44 (.iload 4) 2 46 := ⟨by decide +kernel, rfl⟩
theorem dX6_areAlike_46 : Dc cX6_areAlike 46 (.invokevirtual 161) 3 49 := ⟨by decide +kernel, rfl⟩
theorem dX6_areAlike_49 : Db cX6_areAlike 49 (fun o => .if_icmp .ne o) 52 56 := ⟨7, by decide +kernel, rfl, rfl⟩
theorem dX6_areAlike_52 : Dc cX6_areAlike 52 (.iconst 1) 1 53 := ⟨by decide +kernel, rfl⟩
theorem dX6_areAlike_53 : Db cX6_areAlike 53 .goto 56 57 := ⟨4, by decide +kernel, rfl, rfl⟩
theorem dX6_areAlike_56 : Dc cX6_areAlike 56 (.iconst 0) 1 57 := ⟨by decide +kernel, rfl⟩
theorem dX6_areAlike_57 : Dc cX6_areAlike 57 (.ireturn) 1 58 := ⟨by decide +kernel, rfl⟩
theorem dX6_makeLoop_0 : Dc cX6_makeLoop 0 (.aload_n 0) 1 1 := ⟨by decide +kernel, rfl⟩
theorem dX6_makeLoop_1 : Dc cX6_makeLoop 1 (.getfield 12) 3 4 := ⟨by decide +kernel, rfl⟩
theorem dX6_makeLoop_4 : Dc cX6_makeLoop 4 (.getfield 74) 3 7 := ⟨by decide +kernel, rfl⟩
theorem dX6_makeLoop_7 : Dc cX6_makeLoop 7 (.astore 6) 2 9 := ⟨by decide +kernel, rfl⟩
theorem dX6_makeLoop_9 : Dc cX6_makeLoop 9 (.aload_n 0) 1 10 := ⟨by decide +kernel, rfl⟩
theorem dX6_makeLoop_10 : Dc cX6_makeLoop 10 (.getfield 12) 3 13 := ⟨by decide +kernel, rfl⟩
theorem dX6_makeLoop_13 : Dc cX6_makeLoop 13 (.getfield 115) 3 16 := ⟨by decide +kernel, rfl⟩
theorem dX6_makeLoop_16 : Dc cX6_makeLoop 16 (.invokevirtual 98) 3 19 := ⟨by decide +kernel, rfl⟩
theorem dX6_makeLoop_19 : Dc cX6_makeLoop 19 (.aload_n 0) 1 20 := ⟨by decide +kernel, rfl⟩
theorem dX6_makeLoop_20 : Dc cX6_makeLoop 20 (.getfield 12) 3 23 := ⟨by decide +kernel, rfl⟩
theorem dX6_makeLoop_23 : Dc cX6_makeLoop 23 (.getfield 115) 3 26 := ⟨by decide +kernel, rfl⟩
theorem dX6_makeLoop_26 : Dc cX6_makeLoop 26 (.getfield 78) 3 29 := ⟨by decide +kernel, rfl⟩
theorem dX6_makeLoop_29 : Dc cX6_makeLoop 29 (.istore 7) 2 31 := ⟨by decide +kernel, rfl⟩
theorem dX6_makeLoop_31 : Dc cX6_makeLoop 31 (.iconst 0) 1 32 := ⟨by decide +kernel, rfl⟩
theorem dX6_makeLoop_32 : Dc cX6_makeLoop 32 (.istore 8) 2 34 := ⟨by decide +kernel, rfl⟩
theorem dX6_makeLoop_34 : Dc cX6_makeLoop 34 (.iload 8) 2 36 := ⟨by decide +kernel, rfl⟩
theorem dX6_makeLoop_36 : Dc cX6_makeLoop 36 (.iload 4) 2 38 := ⟨by decide +kernel, rfl⟩
theorem dX6_makeLoop_38 : Db cX6_makeLoop 38 (fun o => .if_icmp .ge o) 41 96 := ⟨58, by decide +kernel, rfl, rfl⟩
theorem dX6_makeLoop_41 : Dc cX6_makeLoop 41 (.aload 6) 2 43 := ⟨by decide +kernel, rfl⟩
theorem dX6_makeLoop_43 : Dc cX6_makeLoop 43 (.iload_n 1) 1 44 := ⟨by decide +kernel, rfl⟩
theorem dX6_makeLoop_44 : Dc cX6_makeLoop 44 (.iload 8) 2 46 := ⟨by decide +kernel, rfl⟩
theorem dX6_makeLoop_46 : Dc cX6_makeLoop 46 (.invokevirtual 161) 3 49 := ⟨by decide +kernel, rfl⟩
theorem dX6_makeLoop_49 : Dc cX6_makeLoop 49 (.istore 9) 2 51 := ⟨by decide +kernel, rfl⟩
theorem dX6_makeLoop_51 : Dc cX6_makeLoop 51 (.aload 6) 2 53 := ⟨by decide +kernel, rfl⟩
theorem dX6_makeLoop_53 : Dc cX6_makeLoop 53 (.iload_n 2) 1 54 := ⟨by decide +kernel, rfl⟩
theorem dX6_makeLoop_54 : Dc cX6_makeLoop 54 (.iload_n 3) 1 55 := ⟨by decide +kernel, rfl⟩
theorem dX6_makeLoop_55 : Dc cX6_makeLoop 55 (.iload 8) 2 57 := ⟨by decide +kernel, rfl⟩
theorem dX6_makeLoop_57 : Dc cX6_makeLoop 57 (.iadd) 1 58 := ⟨by decide +kernel, rfl⟩
theorem dX6_makeLoop_58 : Dc cX6_makeLoop 58 (.invokevirtual 161) 3 61 := ⟨by decide +kernel, rfl⟩
theorem dX6_makeLoop_61 : Dc cX6_makeLoop 61 (.iload 9) 2 63 := ⟨by decide +kernel, rfl⟩
theorem dX6_makeLoop_63 : Dc cX6_makeLoop 63 (.isub) 1 64 := ⟨by decide +kernel, rfl⟩
theorem dX6_makeLoop_64 : Dc cX6_makeLoop 64 (.istore 10) 2 66 := ⟨by decide +kernel, rfl⟩
theorem dX6_makeLoop_66 : Dc cX6_makeLoop 66 (.aload_n 0) 1 67 := ⟨by decide +kernel, rfl⟩
theorem dX6_makeLoop_67 : Dc cX6_makeLoop 67 (.getfield 12) 3 70 := ⟨by decide +kernel, rfl⟩
theorem dX6_makeLoop_70 : Dc cX6_makeLoop 70 (.getfield 115) 3 73 := ⟨by decide +kernel, rfl⟩
theorem dX6_makeLoop_73 : Dc cX6_makeLoop 73 (.iload 7) 2 75 := ⟨by decide +kernel, rfl⟩
theorem dX6_makeLoop_75 : Dc cX6_makeLoop 75 (.aload 6) 2 77 := ⟨by decide +kernel, rfl⟩
theorem dX6_makeLoop_77 : Dc cX6_makeLoop 77 (.iload_n 1) 1 78 := ⟨by decide +kernel, rfl⟩
theorem dX6_makeLoop_78 : Dc cX6_makeLoop 78 (.iload 8) 2 80 := ⟨by decide +kernel, rfl⟩
theorem dX6_makeLoop_80 : Dc cX6_makeLoop 80 (.invokevirtual 157) 3 83 := ⟨by decide +kernel, rfl⟩
theorem dX6_makeLoop_83 : Dc cX6_makeLoop 83 (.iload 9) 2 85 := ⟨by decide +kernel, rfl⟩
theorem dX6_makeLoop_85 : Dc cX6_makeLoop 85 (.iload 10) 2 87 := ⟨by decide +kernel, rfl⟩
theorem dX6_makeLoop_87 : Dc cX6_makeLoop 87 (.invokevirtual 84) 3 90 := ⟨by decide +kernel, rfl⟩
theorem dX6_makeLoop_90 : Dc cX6_makeLoop 90 (.iinc 8 1) 3 93 := ⟨by decide +kernel, rfl⟩
theorem dX6_makeLoop_93 : Db cX6_makeLoop 93 .goto 96 34 := ⟨-59, by decide +kernel, rfl, rfl⟩
theorem dX6_makeLoop_96 : Dc cX6_makeLoop 96 (.aload_n 0) 1 97 := ⟨by decide +kernel, rfl⟩
theorem dX6_makeLoop_97 : Dc cX6_makeLoop 97 (.getfield 12) 3 100 := ⟨by decide +kernel, rfl⟩
theorem dX6_makeLoop_100 : Dc cX6_makeLoop 100 (.getfield 115) 3 103 := ⟨by decide +kernel, rfl⟩
theorem dX6_makeLoop_103 : Dc cX6_makeLoop 103 (.iload 5) 2 105 := ⟨by decide +kernel, rfl⟩
theorem dX6_makeLoop_105 : Dc cX6_makeLoop 105 (.invokevirtual 101) 3 108 := ⟨by decide +kernel, rfl⟩
theorem dX6_makeLoop_108 : Dc cX6_makeLoop 108 (.ireturn) 1 109 := ⟨by decide +kernel, rfl⟩
theorem dX6_leastPeriod_0 : Dc cX6_leastPeriod 0 (.aload_n 0) 1 1 := ⟨by decide +kernel, rfl⟩
theorem dX6_leastPeriod_1 : Dc cX6_leastPeriod 1 (.getfield 12) 3 4 := ⟨by decide +kernel, rfl⟩
theorem dX6_leastPeriod_4 : Dc cX6_leastPeriod 4 (.getfield 74) 3 7 := ⟨by decide +kernel, rfl⟩
theorem dX6_leastPeriod_7 : Dc cX6_leastPeriod 7 (.iload_n 1) 1 8 := ⟨by decide +kernel, rfl⟩
theorem dX6_leastPeriod_8 : Dc cX6_leastPeriod 8 (.invokevirtual 118) 3 11 := ⟨by decide +kernel, rfl⟩
theorem dX6_leastPeriod_11 : Dc cX6_leastPeriod 11 (.istore_n 2) 1 12 := ⟨by decide +kernel, rfl⟩
theorem dX6_leastPeriod_12 : Dc cX6_leastPeriod 12 (.iconst 1) 1 13 := ⟨by decide +kernel, rfl⟩
theorem dX6_leastPeriod_13 : Dc cX6_leastPeriod 13 (.istore_n 3) 1 14 := ⟨by decide +kernel, rfl⟩
theorem dX6_leastPeriod_14 : Dc cX6_leastPeriod 14 (.iconst 2) 1 15 := ⟨by decide +kernel, rfl⟩
theorem dX6_leastPeriod_15 : Dc cX6_leastPeriod 15 (.iload_n 3) 1 16 := ⟨by decide +kernel, rfl⟩
theorem dX6_leastPeriod_16 : Dc cX6_leastPeriod 16 (.imul) 1 17 := ⟨by decide +kernel, rfl⟩
theorem dX6_leastPeriod_17 : Dc cX6_leastPeriod 17 (.iload_n 2) 1 18 := ⟨by decide +kernel, rfl⟩
theorem dX6_leastPeriod_18 : Db cX6_leastPeriod 18 (fun o => .if_icmp .gt o) 21 44 := ⟨26, by decide +kernel, rfl, rfl⟩
theorem dX6_leastPeriod_21 : Dc cX6_leastPeriod 21 (.iload_n 2) 1 22 := ⟨by decide +kernel, rfl⟩
theorem dX6_leastPeriod_22 : Dc cX6_leastPeriod 22 (.iload_n 3) 1 23 := ⟨by decide +kernel, rfl⟩
theorem dX6_leastPeriod_23 : Dc cX6_leastPeriod 23 (.irem) 1 24 := ⟨by decide +kernel, rfl⟩
theorem dX6_leastPeriod_24 : Db cX6_leastPeriod 24 (fun o => .ifCond .ne o) 27 38 := ⟨14, by decide +kernel, rfl, rfl⟩
theorem dX6_leastPeriod_27 : Dc cX6_leastPeriod 27 (.aload_n 0) 1 28 := ⟨by decide +kernel, rfl⟩
theorem dX6_leastPeriod_28 : Dc cX6_leastPeriod 28 (.iload_n 1) 1 29 := ⟨by decide +kernel, rfl⟩
theorem dX6_leastPeriod_29 : Dc cX6_leastPeriod 29 (.iload_n 3) 1 30 := ⟨by decide +kernel, rfl⟩
theorem dX6_leastPeriod_30 : Dc cX6_leastPeriod 30 (.invokevirtual 267) 3 33 := ⟨by decide +kernel, rfl⟩
theorem dX6_leastPeriod_33 : Db cX6_leastPeriod 33 (fun o => .ifCond .eq o) 36 38 := ⟨5, by decide +kernel, rfl, rfl⟩
theorem dX6_leastPeriod_36 : Dc cX6_leastPeriod 36 (.iload_n 3) 1 37 := ⟨by decide +kernel, rfl⟩
theorem dX6_leastPeriod_37 : Dc cX6_leastPeriod 37 (.ireturn) 1 38 := ⟨by decide +kernel, rfl⟩
theorem dX6_leastPeriod_38 : Dc cX6_leastPeriod 38 (.iinc 3 1) 3 41 := ⟨by decide +kernel, rfl⟩
theorem dX6_leastPeriod_41 : Db cX6_leastPeriod 41 .goto 44 14 := ⟨-27, by decide +kernel, rfl, rfl⟩
theorem dX6_leastPeriod_44 : Dc cX6_leastPeriod 44 (.iconst 0) 1 45 := ⟨by decide +kernel, rfl⟩
theorem dX6_leastPeriod_45 : Dc cX6_leastPeriod 45 (.ireturn) 1 46 := ⟨by decide +kernel, rfl⟩
theorem dX6_repeatsBy_0 : Dc cX6_repeatsBy 0 (.aload_n 0) 1 1 := ⟨by decide +kernel, rfl⟩
theorem dX6_repeatsBy_1 : Dc cX6_repeatsBy 1 (.getfield 12) 3 4 := ⟨by decide +kernel, rfl⟩
theorem dX6_repeatsBy_4 : Dc cX6_repeatsBy 4 (.getfield 74) 3 7 := ⟨by decide +kernel, rfl⟩
theorem dX6_repeatsBy_7 : Dc cX6_repeatsBy 7 (.astore_n 3) 1 8 := ⟨by decide +kernel, rfl⟩
theorem dX6_repeatsBy_8 : Dc cX6_repeatsBy 8 (.aload_n 3) 1 9 := ⟨by decide +kernel, rfl⟩
theorem dX6_repeatsBy_9 : Dc cX6_repeatsBy 9 (.iload_n 1) 1 10 := ⟨by decide +kernel, rfl⟩
theorem dX6_repeatsBy_10 : Dc cX6_repeatsBy 10 (.invokevirtual 118) 3 13 := ⟨by decide +kernel, rfl⟩
theorem dX6_repeatsBy_13 : Dc cX6_repeatsBy 13 (.istore 4) 2 15 := ⟨by decide +kernel, rfl⟩
theorem dX6_repeatsBy_15 : Dc cX6_repeatsBy 15 (.iload_n 2) 1 16 := ⟨by decide +kernel, rfl⟩
theorem dX6_repeatsBy_16 : Dc cX6_repeatsBy 16 (.istore 5) 2 18 := ⟨by decide +kernel, rfl⟩
theorem dX6_repeatsBy_18 : Dc cX6_repeatsBy 18 (.iload 5) 2 20 := ⟨by decide +kernel, rfl⟩
theorem dX6_repeatsBy_20 : Dc cX6_repeatsBy 20 (.iload 4) 2 22 := ⟨by decide +kernel, rfl⟩
theorem dX6_repeatsBy_22 : Db cX6_repeatsBy 22 (fun o => .if_icmp .ge o) 25 83 := ⟨61, by decide +kernel, rfl, rfl⟩
theorem dX6_repeatsBy_25 : Dc cX6_repeatsBy 25 (.aload_n 3) 1 26 := ⟨by decide +kernel, rfl⟩
theorem dX6_repeatsBy_26 : Dc cX6_repeatsBy 26 (.iload_n 1) 1 27 := ⟨by decide +kernel, rfl⟩
theorem dX6_repeatsBy_27 : Dc cX6_repeatsBy 27 (.iload 5) 2 29 := ⟨by decide +kernel, rfl⟩
theorem dX6_repeatsBy_29 : Dc cX6_repeatsBy 29 (.invokevirtual 157) 3 32 := ⟨by decide +kernel, rfl⟩
theorem dX6_repeatsBy_32 : Dc cX6_repeatsBy 32 (.aload_n 3) 1 33 := ⟨by decide +kernel, rfl⟩
theorem dX6_repeatsBy_33 : Dc cX6_repeatsBy 33 (.iload_n 1) 1 34 := ⟨by decide +kernel, rfl⟩
theorem dX6_repeatsBy_34 : Dc cX6_repeatsBy 34 (.iload 5) 2 36 := ⟨by decide +kernel, rfl⟩
theorem dX6_repeatsBy_36 : Dc cX6_repeatsBy 36 (.iload_n 2) 1 37 := ⟨by decide +kernel, rfl⟩
theorem dX6_repeatsBy_37 : Dc cX6_repeatsBy 37 (.isub) 1 38 := ⟨by decide +kernel, rfl⟩
theorem dX6_repeatsBy_38 : Dc cX6_repeatsBy 38 (.invokevirtual 157) 3 41 := ⟨by decide +kernel, rfl⟩
theorem dX6_repeatsBy_41 : Db cX6_repeatsBy 41 (fun o => .if_icmp .eq o) 44 46 := ⟨5, by decide +kernel, rfl, rfl⟩
theorem dX6_repeatsBy_44 : Dc cX6_repeatsBy 44 (.iconst 0) 1 45 := ⟨by decide +kernel, rfl⟩
theorem dX6_repeatsBy_45 : Dc cX6_repeatsBy 45 (.ireturn) 1 46 := ⟨by decide +kernel, rfl⟩
theorem dX6_repeatsBy_46 : Dc cX6_repeatsBy 46 (.iload 5) 2 48 := ⟨by decide +kernel, rfl⟩
theorem dX6_repeatsBy_48 : Dc cX6_repeatsBy 48 (.iconst 2) 1 49 := ⟨by decide +kernel, rfl⟩
theorem dX6_repeatsBy_49 : Dc cX6_repeatsBy 49 (.iload_n 2) 1 50 := ⟨by decide +kernel, rfl⟩
theorem dX6_repeatsBy_50 : Dc cX6_repeatsBy 50 (.imul) 1 51 := ⟨by decide +kernel, rfl⟩
theorem dX6_repeatsBy_51 : Db cX6_repeatsBy 51 (fun o => .if_icmp .lt o) 54 77 := ⟨26, by decide +kernel, rfl, rfl⟩
theorem dX6_repeatsBy_54 : Dc cX6_repeatsBy 54 (.aload_n 0) 1 55 := ⟨by decide +kernel, rfl⟩
theorem dX6_repeatsBy_55 : Dc cX6_repeatsBy 55 (.iload_n 1) 1 56 := ⟨by decide +kernel, rfl⟩
theorem dX6_repeatsBy_56 : Dc cX6_repeatsBy 56 (.iload 5) 2 58 := ⟨by decide +kernel, rfl⟩
theorem dX6_repeatsBy_58 : Dc cX6_repeatsBy 58 (.iload_n 2) 1 59 := ⟨by decide +kernel, rfl⟩
theorem dX6_repeatsBy_59 : Dc cX6_repeatsBy 59 (.invokevirtual 270) 3 62 := ⟨by decide +kernel, rfl⟩
theorem dX6_repeatsBy_62 : Dc cX6_repeatsBy 62 (.aload_n 0) 1 63 := ⟨by decide +kernel, rfl⟩
theorem dX6_repeatsBy_63 : Dc cX6_repeatsBy 63 (.iload_n 1) 1 64 := ⟨by decide +kernel, rfl⟩
theorem dX6_repeatsBy_64 : Dc cX6_repeatsBy 64 (.iload 5) 2 66 := ⟨by decide +kernel, rfl⟩
theorem dX6_repeatsBy_66 : Dc cX6_repeatsBy 66 (.iload_n 2) 1 67 := ⟨by decide +kernel, rfl⟩
theorem dX6_repeatsBy_67 : Dc cX6_repeatsBy 67 (.isub) 1 68 := ⟨by decide +kernel, rfl⟩
theorem dX6_repeatsBy_68 : Dc cX6_repeatsBy 68 (.iload_n 2) 1 69 := ⟨by decide +kernel, rfl⟩
theorem dX6_repeatsBy_69 : Dc cX6_repeatsBy 69 (.invokevirtual 270) 3 72 := ⟨by decide +kernel, rfl⟩
theorem dX6_repeatsBy_72 : Db cX6_repeatsBy 72 (fun o => .if_icmp .eq o) 75 77 := ⟨5, by decide +kernel, rfl, rfl⟩
theorem dX6_repeatsBy_75 : Dc cX6_repeatsBy 75 (.iconst 0) 1 76 := ⟨by decide +kernel, rfl⟩
theorem dX6_repeatsBy_76 : Dc cX6_repeatsBy 76 (.ireturn) 1 77 := ⟨by decide +kernel, rfl⟩
theorem dX6_repeatsBy_77 : Dc cX6_repeatsBy 77 (.iinc 5 1) 3 80 := ⟨by decide +kernel, rfl⟩
theorem dX6_repeatsBy_80 : Db cX6_repeatsBy 80 .goto 83 18 := ⟨-62, by decide +kernel, rfl, rfl⟩
theorem dX6_repeatsBy_83 : Dc cX6_repeatsBy 83 (.iconst 1) 1 84 := ⟨by decide +kernel, rfl⟩
theorem dX6_repeatsBy_84 : Dc cX6_repeatsBy 84 (.ireturn) 1 85 := ⟨by decide +kernel, rfl⟩
theorem dX6_riseAt_0 : Dc cX6_riseAt 0 (.aload_n 0) 1 1 := ⟨by decide +kernel, rfl⟩
theorem dX6_riseAt_1 : Dc cX6_riseAt 1 (.getfield 12) 3 4 := ⟨by decide +kernel, rfl⟩
theorem dX6_riseAt_4 : Dc cX6_riseAt 4 (.getfield 74) 3 7 := ⟨by decide +kernel, rfl⟩
theorem dX6_riseAt_7 : Dc cX6_riseAt 7 (.iload_n 1) 1 8 := ⟨by decide +kernel, rfl⟩
theorem dX6_riseAt_8 : Dc cX6_riseAt 8 (.iload_n 2) 1 9 := ⟨by decide +kernel, rfl⟩
theorem dX6_riseAt_9 : Dc cX6_riseAt 9 (.invokevirtual 161) 3 12 := ⟨by decide +kernel, rfl⟩
theorem dX6_riseAt_12 : Dc cX6_riseAt 12 (.aload_n 0) 1 13 := ⟨by decide +kernel, rfl⟩
theorem dX6_riseAt_13 : Dc cX6_riseAt 13 (.getfield 12) 3 16 := ⟨by decide +kernel, rfl⟩
theorem dX6_riseAt_16 : Dc cX6_riseAt 16 (.getfield 74) 3 19 := ⟨by decide +kernel, rfl⟩
theorem dX6_riseAt_19 : Dc cX6_riseAt 19 (.iload_n 1) 1 20 := ⟨by decide +kernel, rfl⟩
theorem dX6_riseAt_20 : Dc cX6_riseAt 20 (.iload_n 2) 1 21 := ⟨by decide +kernel, rfl⟩
theorem dX6_riseAt_21 : Dc cX6_riseAt 21 (.iload_n 3) 1 22 := ⟨by decide +kernel, rfl⟩
theorem dX6_riseAt_22 : Dc cX6_riseAt 22 (.isub) 1 23 := ⟨by decide +kernel, rfl⟩
theorem dX6_riseAt_23 : Dc cX6_riseAt 23 (.invokevirtual 161) 3 26 := ⟨by decide +kernel, rfl⟩
theorem dX6_riseAt_26 : Dc cX6_riseAt 26 (.isub) 1 27 := ⟨by decide +kernel, rfl⟩
theorem dX6_riseAt_27 : Dc cX6_riseAt 27 (.ireturn) 1 28 := ⟨by decide +kernel, rfl⟩
theorem dX6_isTurn_0 : Dc cX6_isTurn 0 (.aload_n 0) 1 1 := ⟨by decide +kernel, rfl⟩
theorem dX6_isTurn_1 : Dc cX6_isTurn 1 (.getfield 12) 3 4 := ⟨by decide +kernel, rfl⟩
theorem dX6_isTurn_4 : Dc cX6_isTurn 4 (.getfield 115) 3 7 := ⟨by decide +kernel, rfl⟩
theorem dX6_isTurn_7 : Dc cX6_isTurn 7 (.iload_n 1) 1 8 := ⟨by decide +kernel, rfl⟩
theorem dX6_isTurn_8 : Dc cX6_isTurn 8 (.invokevirtual 118) 3 11 := ⟨by decide +kernel, rfl⟩
theorem dX6_isTurn_11 : Dc cX6_isTurn 11 (.istore 5) 2 13 := ⟨by decide +kernel, rfl⟩
theorem dX6_isTurn_13 : Dc cX6_isTurn 13 (.iconst 0) 1 14 := ⟨by decide +kernel, rfl⟩
theorem dX6_isTurn_14 : Dc cX6_isTurn 14 (.istore 6) 2 16 := ⟨by decide +kernel, rfl⟩
theorem dX6_isTurn_16 : Dc cX6_isTurn 16 (.iload 6) 2 18 := ⟨by decide +kernel, rfl⟩
theorem dX6_isTurn_18 : Dc cX6_isTurn 18 (.iload 5) 2 20 := ⟨by decide +kernel, rfl⟩
theorem dX6_isTurn_20 : Db cX6_isTurn 20 (fun o => .if_icmp .ge o) 23 98 := ⟨78, by decide +kernel, rfl, rfl⟩
theorem dX6_isTurn_23 : Dc cX6_isTurn 23 (.aload_n 0) 1 24 := ⟨by decide +kernel, rfl⟩
theorem dX6_isTurn_24 : Dc cX6_isTurn 24 (.getfield 12) 3 27 := ⟨by decide +kernel, rfl⟩
theorem dX6_isTurn_27 : Dc cX6_isTurn 27 (.getfield 115) 3 30 := ⟨by decide +kernel, rfl⟩
theorem dX6_isTurn_30 : Dc cX6_isTurn 30 (.iload_n 1) 1 31 := ⟨by decide +kernel, rfl⟩
theorem dX6_isTurn_31 : Dc cX6_isTurn 31 (.iload 6) 2 33 := ⟨by decide +kernel, rfl⟩
theorem dX6_isTurn_33 : Dc cX6_isTurn 33 (.invokevirtual 157) 3 36 := ⟨by decide +kernel, rfl⟩
theorem dX6_isTurn_36 : Dc cX6_isTurn 36 (.aload_n 0) 1 37 := ⟨by decide +kernel, rfl⟩
theorem dX6_isTurn_37 : Dc cX6_isTurn 37 (.getfield 12) 3 40 := ⟨by decide +kernel, rfl⟩
theorem dX6_isTurn_40 : Dc cX6_isTurn 40 (.getfield 74) 3 43 := ⟨by decide +kernel, rfl⟩
theorem dX6_isTurn_43 : Dc cX6_isTurn 43 (.iload_n 3) 1 44 := ⟨by decide +kernel, rfl⟩
theorem dX6_isTurn_44 : Dc cX6_isTurn 44 (.iload 4) 2 46 := ⟨by decide +kernel, rfl⟩
theorem dX6_isTurn_46 : Dc cX6_isTurn 46 (.iload 6) 2 48 := ⟨by decide +kernel, rfl⟩
theorem dX6_isTurn_48 : Dc cX6_isTurn 48 (.iadd) 1 49 := ⟨by decide +kernel, rfl⟩
theorem dX6_isTurn_49 : Dc cX6_isTurn 49 (.invokevirtual 157) 3 52 := ⟨by decide +kernel, rfl⟩
theorem dX6_isTurn_52 : Db cX6_isTurn 52 (fun o => .if_icmp .eq o) 55 57 := ⟨5, by decide +kernel, rfl, rfl⟩
theorem dX6_isTurn_55 : Dc cX6_isTurn 55 (.iconst 0) 1 56 := ⟨by decide +kernel, rfl⟩
theorem dX6_isTurn_56 : Dc cX6_isTurn 56 (.ireturn) 1 57 := ⟨by decide +kernel, rfl⟩
theorem dX6_isTurn_57 : Dc cX6_isTurn 57 (.aload_n 0) 1 58 := ⟨by decide +kernel, rfl⟩
theorem dX6_isTurn_58 : Dc cX6_isTurn 58 (.getfield 12) 3 61 := ⟨by decide +kernel, rfl⟩
theorem dX6_isTurn_61 : Dc cX6_isTurn 61 (.getfield 115) 3 64 := ⟨by decide +kernel, rfl⟩
theorem dX6_isTurn_64 : Dc cX6_isTurn 64 (.iload_n 1) 1 65 := ⟨by decide +kernel, rfl⟩
theorem dX6_isTurn_65 : Dc cX6_isTurn 65 (.iload 6) 2 67 := ⟨by decide +kernel, rfl⟩
theorem dX6_isTurn_67 : Dc cX6_isTurn 67 (.iload_n 2) 1 68 := ⟨by decide +kernel, rfl⟩
theorem dX6_isTurn_68 : Dc cX6_isTurn 68 (.invokevirtual 187) 3 71 := ⟨by decide +kernel, rfl⟩
theorem dX6_isTurn_71 : Dc cX6_isTurn 71 (.aload_n 0) 1 72 := ⟨by decide +kernel, rfl⟩
theorem dX6_isTurn_72 : Dc cX6_isTurn 72 (.getfield 12) 3 75 := ⟨by decide +kernel, rfl⟩
theorem dX6_isTurn_75 : Dc cX6_isTurn 75 (.getfield 74) 3 78 := ⟨by decide +kernel, rfl⟩
theorem dX6_isTurn_78 : Dc cX6_isTurn 78 (.iload_n 3) 1 79 := ⟨by decide +kernel, rfl⟩
theorem dX6_isTurn_79 : Dc cX6_isTurn 79 (.iload 4) 2 81 := ⟨by decide +kernel, rfl⟩
theorem dX6_isTurn_81 : Dc cX6_isTurn 81 (.iload 6) 2 83 := ⟨by decide +kernel, rfl⟩
theorem dX6_isTurn_83 : Dc cX6_isTurn 83 (.iadd) 1 84 := ⟨by decide +kernel, rfl⟩
theorem dX6_isTurn_84 : Dc cX6_isTurn 84 (.invokevirtual 161) 3 87 := ⟨by decide +kernel, rfl⟩
theorem dX6_isTurn_87 : Db cX6_isTurn 87 (fun o => .if_icmp .eq o) 90 92 := ⟨5, by decide +kernel, rfl, rfl⟩
theorem dX6_isTurn_90 : Dc cX6_isTurn 90 (.iconst 0) 1 91 := ⟨by decide +kernel, rfl⟩
theorem dX6_isTurn_91 : Dc cX6_isTurn 91 (.ireturn) 1 92 := ⟨by decide +kernel, rfl⟩
theorem dX6_isTurn_92 : Dc cX6_isTurn 92 (.iinc 6 1) 3 95 := ⟨by decide +kernel, rfl⟩
theorem dX6_isTurn_95 : Db cX6_isTurn 95 .goto 98 16 := ⟨-79, by decide +kernel, rfl, rfl⟩
theorem dX6_isTurn_98 : Dc cX6_isTurn 98 (.iconst 1) 1 99 := ⟨by decide +kernel, rfl⟩
theorem dX6_isTurn_99 : Dc cX6_isTurn 99 (.ireturn) 1 100 := ⟨by decide +kernel, rfl⟩
theorem dX6_turnsInRange_0 : Dc cX6_turnsInRange 0 (.aload_n 0) 1 1 := ⟨by decide +kernel, rfl⟩
theorem dX6_turnsInRange_1 : Dc cX6_turnsInRange 1 (.getfield 12) 3 4 := ⟨by decide +kernel, rfl⟩
theorem dX6_turnsInRange_4 : Dc cX6_turnsInRange 4 (.getfield 115) 3 7 := ⟨by decide +kernel, rfl⟩
theorem dX6_turnsInRange_7 : Dc cX6_turnsInRange 7 (.iload_n 1) 1 8 := ⟨by decide +kernel, rfl⟩
theorem dX6_turnsInRange_8 : Dc cX6_turnsInRange 8 (.iload_n 2) 1 9 := ⟨by decide +kernel, rfl⟩
theorem dX6_turnsInRange_9 : Dc cX6_turnsInRange 9 (.invokevirtual 161) 3 12 := ⟨by decide +kernel, rfl⟩
theorem dX6_turnsInRange_12 : Dc cX6_turnsInRange 12 (.istore_n 3) 1 13 := ⟨by decide +kernel, rfl⟩
theorem dX6_turnsInRange_13 : Dc cX6_turnsInRange 13 (.aload_n 0) 1 14 := ⟨by decide +kernel, rfl⟩
theorem dX6_turnsInRange_14 : Dc cX6_turnsInRange 14 (.getfield 12) 3 17 := ⟨by decide +kernel, rfl⟩
theorem dX6_turnsInRange_17 : Dc cX6_turnsInRange 17 (.getfield 115) 3 20 := ⟨by decide +kernel, rfl⟩
theorem dX6_turnsInRange_20 : Dc cX6_turnsInRange 20 (.iload_n 1) 1 21 := ⟨by decide +kernel, rfl⟩
theorem dX6_turnsInRange_21 : Dc cX6_turnsInRange 21 (.iload_n 2) 1 22 := ⟨by decide +kernel, rfl⟩
theorem dX6_turnsInRange_22 : Dc cX6_turnsInRange 22 (.invokevirtual 184) 3 25 := ⟨by decide +kernel, rfl⟩
theorem dX6_turnsInRange_25 : Dc cX6_turnsInRange 25 (.istore 4) 2 27 := ⟨by decide +kernel, rfl⟩
theorem dX6_turnsInRange_27 : Dc cX6_turnsInRange 27 (.iload 4) 2 29 := ⟨by decide +kernel, rfl⟩
theorem dX6_turnsInRange_29 : Db cX6_turnsInRange 29 (fun o => .ifCond .le o) 32 55 := ⟨26, by decide +kernel, rfl, rfl⟩
theorem dX6_turnsInRange_32 : Dc cX6_turnsInRange 32 (.aload_n 0) 1 33 := ⟨by decide +kernel, rfl⟩
theorem dX6_turnsInRange_33 : Dc cX6_turnsInRange 33 (.getfield 12) 3 36 := ⟨by decide +kernel, rfl⟩
theorem dX6_turnsInRange_36 : Dc cX6_turnsInRange 36 (.getfield 115) 3 39 := ⟨by decide +kernel, rfl⟩
theorem dX6_turnsInRange_39 : Dc cX6_turnsInRange 39 (.iload_n 1) 1 40 := ⟨by decide +kernel, rfl⟩
theorem dX6_turnsInRange_40 : Dc cX6_turnsInRange 40 (.iload_n 2) 1 41 := ⟨by decide +kernel, rfl⟩
theorem dX6_turnsInRange_41 : Dc cX6_turnsInRange 41 (.invokevirtual 157) 3 44 := ⟨by decide +kernel, rfl⟩
theorem dX6_turnsInRange_44 : Dc cX6_turnsInRange 44 (.invokestatic 249) 3 47 := ⟨by decide +kernel, rfl⟩
theorem dX6_turnsInRange_47 : Dc cX6_turnsInRange 47 (.iload_n 3) 1 48 := ⟨by decide +kernel, rfl⟩
theorem dX6_turnsInRange_48 : Dc cX6_turnsInRange 48 (.isub) 1 49 := ⟨by decide +kernel, rfl⟩
theorem dX6_turnsInRange_49 : Dc cX6_turnsInRange 49 (.iload 4) 2 51 := ⟨by decide +kernel, rfl⟩
theorem dX6_turnsInRange_51 : Dc cX6_turnsInRange 51 (.idiv) 1 52 := ⟨by decide +kernel, rfl⟩
theorem dX6_turnsInRange_52 : Dc cX6_turnsInRange 52 (.iconst 1) 1 53 := ⟨by decide +kernel, rfl⟩
theorem dX6_turnsInRange_53 : Dc cX6_turnsInRange 53 (.iadd) 1 54 := ⟨by decide +kernel, rfl⟩
theorem dX6_turnsInRange_54 : Dc cX6_turnsInRange 54 (.ireturn) 1 55 := ⟨by decide +kernel, rfl⟩
theorem dX6_turnsInRange_55 : Dc cX6_turnsInRange 55 (.iload 4) 2 57 := ⟨by decide +kernel, rfl⟩
theorem dX6_turnsInRange_57 : Db cX6_turnsInRange 57 (fun o => .ifCond .ge o) 60 68 := ⟨11, by decide +kernel, rfl, rfl⟩
theorem dX6_turnsInRange_60 : Dc cX6_turnsInRange 60 (.iload_n 3) 1 61 := ⟨by decide +kernel, rfl⟩
theorem dX6_turnsInRange_61 : Dc cX6_turnsInRange 61 (.iload 4) 2 63 := ⟨by decide +kernel, rfl⟩
theorem dX6_turnsInRange_63 : Dc cX6_turnsInRange 63 (.ineg) 1 64 := ⟨by decide +kernel, rfl⟩
theorem dX6_turnsInRange_64 : Dc cX6_turnsInRange 64 (.idiv) 1 65 := ⟨by decide +kernel, rfl⟩
theorem dX6_turnsInRange_65 : Dc cX6_turnsInRange 65 (.iconst 1) 1 66 := ⟨by decide +kernel, rfl⟩
theorem dX6_turnsInRange_66 : Dc cX6_turnsInRange 66 (.iadd) 1 67 := ⟨by decide +kernel, rfl⟩
theorem dX6_turnsInRange_67 : Dc cX6_turnsInRange 67 (.ireturn) 1 68 := ⟨by decide +kernel, rfl⟩
theorem dX6_turnsInRange_68 : Dc cX6_turnsInRange 68 (.bipush (-5)) 2 70 := ⟨by decide +kernel, rfl⟩
theorem dX6_turnsInRange_70 : Dc cX6_turnsInRange 70 (.ireturn) 1 71 := ⟨by decide +kernel, rfl⟩
theorem dX6_copyNumbers_0 : Dc cX6_copyNumbers 0 (.aload_n 0) 1 1 := ⟨by decide +kernel, rfl⟩
theorem dX6_copyNumbers_1 : Dc cX6_copyNumbers 1 (.iconst 0) 1 2 := ⟨by decide +kernel, rfl⟩
theorem dX6_copyNumbers_2 : Dc cX6_copyNumbers 2 (.aload_n 1) 1 3 := ⟨by decide +kernel, rfl⟩
theorem dX6_copyNumbers_3 : Dc cX6_copyNumbers 3 (.iconst 0) 1 4 := ⟨by decide +kernel, rfl⟩
theorem dX6_copyNumbers_4 : Dc cX6_copyNumbers 4 (.aload_n 0) 1 5 := ⟨by decide +kernel, rfl⟩
theorem dX6_copyNumbers_5 : Dc cX6_copyNumbers 5 (.arraylength) 1 6 := ⟨by decide +kernel, rfl⟩
theorem dX6_copyNumbers_6 : Dc cX6_copyNumbers 6 (.aload_n 1) 1 7 := ⟨by decide +kernel, rfl⟩
theorem dX6_copyNumbers_7 : Dc cX6_copyNumbers 7 (.arraylength) 1 8 := ⟨by decide +kernel, rfl⟩
theorem dX6_copyNumbers_8 : Dc cX6_copyNumbers 8 (.invokestatic 255) 3 11 := ⟨by decide +kernel, rfl⟩
theorem dX6_copyNumbers_11 : Dc cX6_copyNumbers 11 (.invokestatic 273) 3 14 := ⟨by decide +kernel, rfl⟩
theorem dX6_copyNumbers_14 : Dc cX6_copyNumbers 14 (.return_) 1 15 := ⟨by decide +kernel, rfl⟩
end
section
theorem dX7_init_0 : Dc cX7_init 0 (.aload_n 0) 1 1 := ⟨by decide +kernel, rfl⟩
theorem dX7_init_1 : Dc cX7_init 1 (.invokespecial 1) 3 4 := ⟨by decide +kernel, rfl⟩
theorem dX7_init_4 : Dc cX7_init 4 (.aload_n 0) 1 5 := ⟨by decide +kernel, rfl⟩
theorem dX7_init_5 : Dc cX7_init 5 (.sipush 441) 3 8 := ⟨by decide +kernel, rfl⟩
theorem dX7_init_8 : Dc cX7_init 8 (.newarray .int) 2 10 := ⟨by decide +kernel, rfl⟩
theorem dX7_init_10 : Dc cX7_init 10 (.putfield 7) 3 13 := ⟨by decide +kernel, rfl⟩
theorem dX7_init_13 : Dc cX7_init 13 (.aload_n 0) 1 14 := ⟨by decide +kernel, rfl⟩
theorem dX7_init_14 : Dc cX7_init 14 (.sipush 441) 3 17 := ⟨by decide +kernel, rfl⟩
theorem dX7_init_17 : Dc cX7_init 17 (.newarray .int) 2 19 := ⟨by decide +kernel, rfl⟩
theorem dX7_init_19 : Dc cX7_init 19 (.putfield 13) 3 22 := ⟨by decide +kernel, rfl⟩
theorem dX7_init_22 : Dc cX7_init 22 (.aload_n 0) 1 23 := ⟨by decide +kernel, rfl⟩
theorem dX7_init_23 : Dc cX7_init 23 (.sipush 1764) 3 26 := ⟨by decide +kernel, rfl⟩
theorem dX7_init_26 : Dc cX7_init 26 (.newarray .int) 2 28 := ⟨by decide +kernel, rfl⟩
theorem dX7_init_28 : Dc cX7_init 28 (.putfield 16) 3 31 := ⟨by decide +kernel, rfl⟩
theorem dX7_init_31 : Dc cX7_init 31 (.aload_n 0) 1 32 := ⟨by decide +kernel, rfl⟩
theorem dX7_init_32 : Dc cX7_init 32 (.sipush 441) 3 35 := ⟨by decide +kernel, rfl⟩
theorem dX7_init_35 : Dc cX7_init 35 (.newarray .int) 2 37 := ⟨by decide +kernel, rfl⟩
theorem dX7_init_37 : Dc cX7_init 37 (.putfield 19) 3 40 := ⟨by decide +kernel, rfl⟩
theorem dX7_init_40 : Dc cX7_init 40 (.aload_n 0) 1 41 := ⟨by decide +kernel, rfl⟩
theorem dX7_init_41 : Dc cX7_init 41 (.bipush 60) 2 43 := ⟨by decide +kernel, rfl⟩
theorem dX7_init_43 : Dc cX7_init 43 (.newarray .int) 2 45 := ⟨by decide +kernel, rfl⟩
theorem dX7_init_45 : Dc cX7_init 45 (.putfield 22) 3 48 := ⟨by decide +kernel, rfl⟩
theorem dX7_init_48 : Dc cX7_init 48 (.aload_n 0) 1 49 := ⟨by decide +kernel, rfl⟩
theorem dX7_init_49 : Dc cX7_init 49 (.bipush 20) 2 51 := ⟨by decide +kernel, rfl⟩
theorem dX7_init_51 : Dc cX7_init 51 (.newarray .int) 2 53 := ⟨by decide +kernel, rfl⟩
theorem dX7_init_53 : Dc cX7_init 53 (.putfield 25) 3 56 := ⟨by decide +kernel, rfl⟩
theorem dX7_init_56 : Dc cX7_init 56 (.aload_n 0) 1 57 := ⟨by decide +kernel, rfl⟩
theorem dX7_init_57 : Dc cX7_init 57 (.bipush 20) 2 59 := ⟨by decide +kernel, rfl⟩
theorem dX7_init_59 : Dc cX7_init 59 (.newarray .int) 2 61 := ⟨by decide +kernel, rfl⟩
theorem dX7_init_61 : Dc cX7_init 61 (.putfield 28) 3 64 := ⟨by decide +kernel, rfl⟩
theorem dX7_init_64 : Dc cX7_init 64 (.aload_n 0) 1 65 := ⟨by decide +kernel, rfl⟩
theorem dX7_init_65 : Dc cX7_init 65 (.bipush 20) 2 67 := ⟨by decide +kernel, rfl⟩
theorem dX7_init_67 : Dc cX7_init 67 (.newarray .int) 2 69 := ⟨by decide +kernel, rfl⟩
theorem dX7_init_69 : Dc cX7_init 69 (.putfield 31) 3 72 := ⟨by decide +kernel, rfl⟩
theorem dX7_init_72 : Dc cX7_init 72 (.aload_n 0) 1 73 := ⟨by decide +kernel, rfl⟩
theorem dX7_init_73 : Dc cX7_init 73 (.sipush 169) 3 76 := ⟨by decide +kernel, rfl⟩
theorem dX7_init_76 : Dc cX7_init 76 (.newarray .int) 2 78 := ⟨by decide +kernel, rfl⟩
theorem dX7_init_78 : Dc cX7_init 78 (.putfield 34) 3 81 := ⟨by decide +kernel, rfl⟩
theorem dX7_init_81 : Dc cX7_init 81 (.aload_n 0) 1 82 := ⟨by decide +kernel, rfl⟩
theorem dX7_init_82 : Dc cX7_init 82 (.getfield 7) 3 85 := ⟨by decide +kernel, rfl⟩
theorem dX7_init_85 : Dc cX7_init 85 (.bipush 37) 2 87 := ⟨by decide +kernel, rfl⟩
theorem dX7_init_87 : Dc cX7_init 87 (.bipush (-5)) 2 89 := ⟨by decide +kernel, rfl⟩
theorem dX7_init_89 : Dc cX7_init 89 (.iastore) 1 90 := ⟨by decide +kernel, rfl⟩
theorem dX7_init_90 : Dc cX7_init 90 (.return_) 1 91 := ⟨by decide +kernel, rfl⟩
theorem dX7_in_0 : Dc cX7_in 0 (.iload_n 0) 1 1 := ⟨by decide +kernel, rfl⟩
theorem dX7_in_1 : Dc cX7_in 1 (.iload_n 1) 1 2 := ⟨by decide +kernel, rfl⟩
theorem dX7_in_2 : Db cX7_in 2 (fun o => .if_icmp .lt o) 5 14 := ⟨12, by decide +kernel, rfl, rfl⟩
theorem dX7_in_5 : Dc cX7_in 5 (.iload_n 0) 1 6 := ⟨by decide +kernel, rfl⟩
theorem dX7_in_6 : Dc cX7_in 6 (.iload_n 2) 1 7 := ⟨by decide +kernel, rfl⟩
theorem dX7_in_7 : Db cX7_in 7 (fun o => .if_icmp .gt o) 10 14 := ⟨7, by decide +kernel, rfl, rfl⟩
theorem dX7_in_10 : Dc cX7_in 10 (.iconst 1) 1 11 := ⟨by decide +kernel, rfl⟩
theorem dX7_in_11 : Db cX7_in 11 .goto 14 15 := ⟨4, by decide +kernel, rfl, rfl⟩
theorem dX7_in_14 : Dc cX7_in 14 (.iconst 0) 1 15 := ⟨by decide +kernel, rfl⟩
theorem dX7_in_15 : Dc cX7_in 15 (.ireturn) 1 16 := ⟨by decide +kernel, rfl⟩
theorem dX7_greatest_0 : Dc cX7_greatest 0 (.iload_n 0) 1 1 := ⟨by decide +kernel, rfl⟩
theorem dX7_greatest_1 : Db cX7_greatest 1 (fun o => .ifCond .eq o) 4 14 := ⟨13, by decide +kernel, rfl, rfl⟩
theorem dX7_greatest_4 : Dc cX7_greatest 4 (.iload_n 0) 1 5 := ⟨by decide +kernel, rfl⟩
theorem dX7_greatest_5 : Dc cX7_greatest 5 (.iconst 3) 1 6 := ⟨by decide +kernel, rfl⟩
theorem dX7_greatest_6 : Db cX7_greatest 6 (fun o => .if_icmp .eq o) 9 14 := ⟨8, by decide +kernel, rfl, rfl⟩
theorem dX7_greatest_9 : Dc cX7_greatest 9 (.iload_n 0) 1 10 := ⟨by decide +kernel, rfl⟩
theorem dX7_greatest_10 : Dc cX7_greatest 10 (.iconst 4) 1 11 := ⟨by decide +kernel, rfl⟩
theorem dX7_greatest_11 : Db cX7_greatest 11 (fun o => .if_icmp .ne o) 14 19 := ⟨8, by decide +kernel, rfl, rfl⟩
theorem dX7_greatest_14 : Dc cX7_greatest 14 (.bipush 29) 2 16 := ⟨by decide +kernel, rfl⟩
theorem dX7_greatest_16 : Db cX7_greatest 16 .goto 19 21 := ⟨5, by decide +kernel, rfl, rfl⟩
theorem dX7_greatest_19 : Dc cX7_greatest 19 (.bipush 99) 2 21 := ⟨by decide +kernel, rfl⟩
theorem dX7_greatest_21 : Dc cX7_greatest 21 (.ireturn) 1 22 := ⟨by decide +kernel, rfl⟩
theorem dX7_isTry_0 : Dc cX7_isTry 0 (.iload_n 1) 1 1 := ⟨by decide +kernel, rfl⟩
theorem dX7_isTry_1 : Dc cX7_isTry 1 (.iconst 0) 1 2 := ⟨by decide +kernel, rfl⟩
theorem dX7_isTry_2 : Dc cX7_isTry 2 (.aload_n 0) 1 3 := ⟨by decide +kernel, rfl⟩
theorem dX7_isTry_3 : Dc cX7_isTry 3 (.getfield 7) 3 6 := ⟨by decide +kernel, rfl⟩
theorem dX7_isTry_6 : Dc cX7_isTry 6 (.bipush 31) 2 8 := ⟨by decide +kernel, rfl⟩
theorem dX7_isTry_8 : Dc cX7_isTry 8 (.iaload) 1 9 := ⟨by decide +kernel, rfl⟩
theorem dX7_isTry_9 : Dc cX7_isTry 9 (.iconst 1) 1 10 := ⟨by decide +kernel, rfl⟩
theorem dX7_isTry_10 : Dc cX7_isTry 10 (.isub) 1 11 := ⟨by decide +kernel, rfl⟩
theorem dX7_isTry_11 : Dc cX7_isTry 11 (.invokestatic 37) 3 14 := ⟨by decide +kernel, rfl⟩
theorem dX7_isTry_14 : Dc cX7_isTry 14 (.ireturn) 1 15 := ⟨by decide +kernel, rfl⟩
theorem dX7_isLoop_0 : Dc cX7_isLoop 0 (.iload_n 1) 1 1 := ⟨by decide +kernel, rfl⟩
theorem dX7_isLoop_1 : Dc cX7_isLoop 1 (.iconst 0) 1 2 := ⟨by decide +kernel, rfl⟩
theorem dX7_isLoop_2 : Dc cX7_isLoop 2 (.aload_n 0) 1 3 := ⟨by decide +kernel, rfl⟩
theorem dX7_isLoop_3 : Dc cX7_isLoop 3 (.getfield 7) 3 6 := ⟨by decide +kernel, rfl⟩
theorem dX7_isLoop_6 : Dc cX7_isLoop 6 (.bipush 33) 2 8 := ⟨by decide +kernel, rfl⟩
theorem dX7_isLoop_8 : Dc cX7_isLoop 8 (.iaload) 1 9 := ⟨by decide +kernel, rfl⟩
theorem dX7_isLoop_9 : Dc cX7_isLoop 9 (.iconst 1) 1 10 := ⟨by decide +kernel, rfl⟩
theorem dX7_isLoop_10 : Dc cX7_isLoop 10 (.isub) 1 11 := ⟨by decide +kernel, rfl⟩
theorem dX7_isLoop_11 : Dc cX7_isLoop 11 (.invokestatic 37) 3 14 := ⟨by decide +kernel, rfl⟩
theorem dX7_isLoop_14 : Dc cX7_isLoop 14 (.ireturn) 1 15 := ⟨by decide +kernel, rfl⟩
theorem dX7_sizeOf_0 : Dc cX7_sizeOf 0 (.aload_n 0) 1 1 := ⟨by decide +kernel, rfl⟩
theorem dX7_sizeOf_1 : Dc cX7_sizeOf 1 (.getfield 7) 3 4 := ⟨by decide +kernel, rfl⟩
theorem dX7_sizeOf_4 : Dc cX7_sizeOf 4 (.bipush 38) 2 6 := ⟨by decide +kernel, rfl⟩
theorem dX7_sizeOf_6 : Dc cX7_sizeOf 6 (.bipush 25) 2 8 := ⟨by decide +kernel, rfl⟩
theorem dX7_sizeOf_8 : Dc cX7_sizeOf 8 (.iload_n 1) 1 9 := ⟨by decide +kernel, rfl⟩
theorem dX7_sizeOf_9 : Dc cX7_sizeOf 9 (.imul) 1 10 := ⟨by decide +kernel, rfl⟩
theorem dX7_sizeOf_10 : Dc cX7_sizeOf 10 (.iadd) 1 11 := ⟨by decide +kernel, rfl⟩
theorem dX7_sizeOf_11 : Dc cX7_sizeOf 11 (.iaload) 1 12 := ⟨by decide +kernel, rfl⟩
theorem dX7_sizeOf_12 : Dc cX7_sizeOf 12 (.ireturn) 1 13 := ⟨by decide +kernel, rfl⟩
theorem dX7_verbOf_0 : Dc cX7_verbOf 0 (.aload_n 0) 1 1 := ⟨by decide +kernel, rfl⟩
theorem dX7_verbOf_1 : Dc cX7_verbOf 1 (.getfield 7) 3 4 := ⟨by decide +kernel, rfl⟩
theorem dX7_verbOf_4 : Dc cX7_verbOf 4 (.bipush 38) 2 6 := ⟨by decide +kernel, rfl⟩
theorem dX7_verbOf_6 : Dc cX7_verbOf 6 (.bipush 25) 2 8 := ⟨by decide +kernel, rfl⟩
theorem dX7_verbOf_8 : Dc cX7_verbOf 8 (.iload_n 1) 1 9 := ⟨by decide +kernel, rfl⟩
theorem dX7_verbOf_9 : Dc cX7_verbOf 9 (.imul) 1 10 := ⟨by decide +kernel, rfl⟩
theorem dX7_verbOf_10 : Dc cX7_verbOf 10 (.iadd) 1 11 := ⟨by decide +kernel, rfl⟩
theorem dX7_verbOf_11 : Dc cX7_verbOf 11 (.iconst 1) 1 12 := ⟨by decide +kernel, rfl⟩
theorem dX7_verbOf_12 : Dc cX7_verbOf 12 (.iadd) 1 13 := ⟨by decide +kernel, rfl⟩
theorem dX7_verbOf_13 : Dc cX7_verbOf 13 (.iconst 2) 1 14 := ⟨by decide +kernel, rfl⟩
theorem dX7_verbOf_14 : Dc cX7_verbOf 14 (.iload_n 2) 1 15 := ⟨by decide +kernel, rfl⟩
theorem dX7_verbOf_15 : Dc cX7_verbOf 15 (.imul) 1 16 := ⟨by decide +kernel, rfl⟩
theorem dX7_verbOf_16 : Dc cX7_verbOf 16 (.iadd) 1 17 := ⟨by decide +kernel, rfl⟩
theorem dX7_verbOf_17 : Dc cX7_verbOf 17 (.iaload) 1 18 := ⟨by decide +kernel, rfl⟩
theorem dX7_verbOf_18 : Dc cX7_verbOf 18 (.ireturn) 1 19 := ⟨by decide +kernel, rfl⟩
theorem dX7_numberOf_0 : Dc cX7_numberOf 0 (.aload_n 0) 1 1 := ⟨by decide +kernel, rfl⟩
theorem dX7_numberOf_1 : Dc cX7_numberOf 1 (.getfield 7) 3 4 := ⟨by decide +kernel, rfl⟩
theorem dX7_numberOf_4 : Dc cX7_numberOf 4 (.bipush 38) 2 6 := ⟨by decide +kernel, rfl⟩
theorem dX7_numberOf_6 : Dc cX7_numberOf 6 (.bipush 25) 2 8 := ⟨by decide +kernel, rfl⟩
theorem dX7_numberOf_8 : Dc cX7_numberOf 8 (.iload_n 1) 1 9 := ⟨by decide +kernel, rfl⟩
theorem dX7_numberOf_9 : Dc cX7_numberOf 9 (.imul) 1 10 := ⟨by decide +kernel, rfl⟩
theorem dX7_numberOf_10 : Dc cX7_numberOf 10 (.iadd) 1 11 := ⟨by decide +kernel, rfl⟩
theorem dX7_numberOf_11 : Dc cX7_numberOf 11 (.iconst 2) 1 12 := ⟨by decide +kernel, rfl⟩
theorem dX7_numberOf_12 : Dc cX7_numberOf 12 (.iadd) 1 13 := ⟨by decide +kernel, rfl⟩
theorem dX7_numberOf_13 : Dc cX7_numberOf 13 (.iconst 2) 1 14 := ⟨by decide +kernel, rfl⟩
theorem dX7_numberOf_14 : Dc cX7_numberOf 14 (.iload_n 2) 1 15 := ⟨by decide +kernel, rfl⟩
theorem dX7_numberOf_15 : Dc cX7_numberOf 15 (.imul) 1 16 := ⟨by decide +kernel, rfl⟩
theorem dX7_numberOf_16 : Dc cX7_numberOf 16 (.iadd) 1 17 := ⟨by decide +kernel, rfl⟩
theorem dX7_numberOf_17 : Dc cX7_numberOf 17 (.iaload) 1 18 := ⟨by decide +kernel, rfl⟩
theorem dX7_numberOf_18 : Dc cX7_numberOf 18 (.ireturn) 1 19 := ⟨by decide +kernel, rfl⟩
theorem dX7_copyState_0 : Dc cX7_copyState 0 (.iconst 0) 1 1 := ⟨by decide +kernel, rfl⟩
theorem dX7_copyState_1 : Dc cX7_copyState 1 (.istore 4) 2 3 := ⟨by decide +kernel, rfl⟩
theorem dX7_copyState_3 : Dc cX7_copyState 3 (.iload 4) 2 5 := ⟨by decide +kernel, rfl⟩
theorem dX7_copyState_5 : Dc cX7_copyState 5 (.sipush 441) 3 8 := ⟨by decide +kernel, rfl⟩
theorem dX7_copyState_8 : Db cX7_copyState 8 (fun o => .if_icmp .ge o) 11 29 := ⟨21, by decide +kernel, rfl, rfl⟩
theorem dX7_copyState_11 : Dc cX7_copyState 11 (.aload_n 2) 1 12 := ⟨by decide +kernel, rfl⟩
theorem dX7_copyState_12 : Dc cX7_copyState 12 (.iload_n 3) 1 13 := ⟨by decide +kernel, rfl⟩
theorem dX7_copyState_13 : Dc cX7_copyState 13 (.iload 4) 2 15 := ⟨by decide +kernel, rfl⟩
theorem dX7_copyState_15 : Dc cX7_copyState 15 (.iadd) 1 16 := ⟨by decide +kernel, rfl⟩
theorem dX7_copyState_16 : Dc cX7_copyState 16 (.aload_n 0) 1 17 := ⟨by decide +kernel, rfl⟩
theorem dX7_copyState_17 : Dc cX7_copyState 17 (.iload_n 1) 1 18 := ⟨by decide +kernel, rfl⟩
theorem dX7_copyState_18 : Dc cX7_copyState 18 (.iload 4) 2 20 := ⟨by decide +kernel, rfl⟩
theorem dX7_copyState_20 : Dc cX7_copyState 20 (.iadd) 1 21 := ⟨by decide +kernel, rfl⟩
theorem dX7_copyState_21 : Dc cX7_copyState 21 (.iaload) 1 22 := ⟨by decide +kernel, rfl⟩
theorem dX7_copyState_22 : Dc cX7_copyState 22 (.iastore) 1 23 := ⟨by decide +kernel, rfl⟩
theorem dX7_copyState_23 : Dc cX7_copyState 23 (.iinc 4 1) 3 26 := ⟨by decide +kernel, rfl⟩
theorem dX7_copyState_26 : Db cX7_copyState 26 .goto 29 3 := ⟨-23, by decide +kernel, rfl, rfl⟩
theorem dX7_copyState_29 : Dc cX7_copyState 29 (.return_) 1 30 := ⟨by decide +kernel, rfl⟩
theorem dX7_save_0 : Dc cX7_save 0 (.aload_n 0) 1 1 := ⟨by decide +kernel, rfl⟩
theorem dX7_save_1 : Dc cX7_save 1 (.getfield 41) 3 4 := ⟨by decide +kernel, rfl⟩
theorem dX7_save_4 : Dc cX7_save 4 (.iconst 4) 1 5 := ⟨by decide +kernel, rfl⟩
theorem dX7_save_5 : Db cX7_save 5 (fun o => .if_icmp .ne o) 8 49 := ⟨44, by decide +kernel, rfl, rfl⟩
theorem dX7_save_8 : Dc cX7_save 8 (.iconst 0) 1 9 := ⟨by decide +kernel, rfl⟩
theorem dX7_save_9 : Dc cX7_save 9 (.istore_n 1) 1 10 := ⟨by decide +kernel, rfl⟩
theorem dX7_save_10 : Dc cX7_save 10 (.iload_n 1) 1 11 := ⟨by decide +kernel, rfl⟩
theorem dX7_save_11 : Dc cX7_save 11 (.sipush 1323) 3 14 := ⟨by decide +kernel, rfl⟩
theorem dX7_save_14 : Db cX7_save 14 (fun o => .if_icmp .ge o) 17 39 := ⟨25, by decide +kernel, rfl, rfl⟩
theorem dX7_save_17 : Dc cX7_save 17 (.aload_n 0) 1 18 := ⟨by decide +kernel, rfl⟩
theorem dX7_save_18 : Dc cX7_save 18 (.getfield 16) 3 21 := ⟨by decide +kernel, rfl⟩
theorem dX7_save_21 : Dc cX7_save 21 (.iload_n 1) 1 22 := ⟨by decide +kernel, rfl⟩
theorem dX7_save_22 : Dc cX7_save 22 (.aload_n 0) 1 23 := ⟨by decide +kernel, rfl⟩
theorem dX7_save_23 : Dc cX7_save 23 (.getfield 16) 3 26 := ⟨by decide +kernel, rfl⟩
theorem dX7_save_26 : Dc cX7_save 26 (.iload_n 1) 1 27 := ⟨by decide +kernel, rfl⟩
theorem dX7_save_27 : Dc cX7_save 27 (.sipush 441) 3 30 := ⟨by decide +kernel, rfl⟩
theorem dX7_save_30 : Dc cX7_save 30 (.iadd) 1 31 := ⟨by decide +kernel, rfl⟩
theorem dX7_save_31 : Dc cX7_save 31 (.iaload) 1 32 := ⟨by decide +kernel, rfl⟩
theorem dX7_save_32 : Dc cX7_save 32 (.iastore) 1 33 := ⟨by decide +kernel, rfl⟩
theorem dX7_save_33 : Dc cX7_save 33 (.iinc 1 1) 3 36 := ⟨by decide +kernel, rfl⟩
theorem dX7_save_36 : Db cX7_save 36 .goto 39 10 := ⟨-26, by decide +kernel, rfl, rfl⟩
theorem dX7_save_39 : Dc cX7_save 39 (.aload_n 0) 1 40 := ⟨by decide +kernel, rfl⟩
theorem dX7_save_40 : Dc cX7_save 40 (.dup) 1 41 := ⟨by decide +kernel, rfl⟩
theorem dX7_save_41 : Dc cX7_save 41 (.getfield 41) 3 44 := ⟨by decide +kernel, rfl⟩
theorem dX7_save_44 : Dc cX7_save 44 (.iconst 1) 1 45 := ⟨by decide +kernel, rfl⟩
theorem dX7_save_45 : Dc cX7_save 45 (.isub) 1 46 := ⟨by decide +kernel, rfl⟩
theorem dX7_save_46 : Dc cX7_save 46 (.putfield 41) 3 49 := ⟨by decide +kernel, rfl⟩
theorem dX7_save_49 : Dc cX7_save 49 (.aload_n 0) 1 50 := ⟨by decide +kernel, rfl⟩
theorem dX7_save_50 : Dc cX7_save 50 (.getfield 7) 3 53 := ⟨by decide +kernel, rfl⟩
theorem dX7_save_53 : Dc cX7_save 53 (.iconst 0) 1 54 := ⟨by decide +kernel, rfl⟩
theorem dX7_save_54 : Dc cX7_save 54 (.aload_n 0) 1 55 := ⟨by decide +kernel, rfl⟩
theorem dX7_save_55 : Dc cX7_save 55 (.getfield 16) 3 58 := ⟨by decide +kernel, rfl⟩
theorem dX7_save_58 : Dc cX7_save 58 (.sipush 441) 3 61 := ⟨by decide +kernel, rfl⟩
theorem dX7_save_61 : Dc cX7_save 61 (.aload_n 0) 1 62 := ⟨by decide +kernel, rfl⟩
theorem dX7_save_62 : Dc cX7_save 62 (.getfield 41) 3 65 := ⟨by decide +kernel, rfl⟩
theorem dX7_save_65 : Dc cX7_save 65 (.imul) 1 66 := ⟨by decide +kernel, rfl⟩
theorem dX7_save_66 : Dc cX7_save 66 (.invokestatic 45) 3 69 := ⟨by decide +kernel, rfl⟩
theorem dX7_save_69 : Dc cX7_save 69 (.aload_n 0) 1 70 := ⟨by decide +kernel, rfl⟩
theorem dX7_save_70 : Dc cX7_save 70 (.dup) 1 71 := ⟨by decide +kernel, rfl⟩
theorem dX7_save_71 : Dc cX7_save 71 (.getfield 41) 3 74 := ⟨by decide +kernel, rfl⟩
theorem dX7_save_74 : Dc cX7_save 74 (.iconst 1) 1 75 := ⟨by decide +kernel, rfl⟩
theorem dX7_save_75 : Dc cX7_save 75 (.iadd) 1 76 := ⟨by decide +kernel, rfl⟩
theorem dX7_save_76 : Dc cX7_save 76 (.putfield 41) 3 79 := ⟨by decide +kernel, rfl⟩
theorem dX7_save_79 : Dc cX7_save 79 (.return_) 1 80 := ⟨by decide +kernel, rfl⟩
theorem dX7_undo_0 : Dc cX7_undo 0 (.aload_n 0) 1 1 := ⟨by decide +kernel, rfl⟩
theorem dX7_undo_1 : Dc cX7_undo 1 (.getfield 41) 3 4 := ⟨by decide +kernel, rfl⟩
theorem dX7_undo_4 : Db cX7_undo 4 (fun o => .ifCond .ne o) 7 10 := ⟨6, by decide +kernel, rfl, rfl⟩
theorem dX7_undo_7 : Dc cX7_undo 7 (.bipush (-5)) 2 9 := ⟨by decide +kernel, rfl⟩
theorem dX7_undo_9 : Dc cX7_undo 9 (.ireturn) 1 10 := ⟨by decide +kernel, rfl⟩
theorem dX7_undo_10 : Dc cX7_undo 10 (.aload_n 0) 1 11 := ⟨by decide +kernel, rfl⟩
theorem dX7_undo_11 : Dc cX7_undo 11 (.dup) 1 12 := ⟨by decide +kernel, rfl⟩
theorem dX7_undo_12 : Dc cX7_undo 12 (.getfield 41) 3 15 := ⟨by decide +kernel, rfl⟩
theorem dX7_undo_15 : Dc cX7_undo 15 (.iconst 1) 1 16 := ⟨by decide +kernel, rfl⟩
theorem dX7_undo_16 : Dc cX7_undo 16 (.isub) 1 17 := ⟨by decide +kernel, rfl⟩
theorem dX7_undo_17 : Dc cX7_undo 17 (.putfield 41) 3 20 := ⟨by decide +kernel, rfl⟩
theorem dX7_undo_20 : Dc cX7_undo 20 (.aload_n 0) 1 21 := ⟨by decide +kernel, rfl⟩
theorem dX7_undo_21 : Dc cX7_undo 21 (.getfield 16) 3 24 := ⟨by decide +kernel, rfl⟩
theorem dX7_undo_24 : Dc cX7_undo 24 (.sipush 441) 3 27 := ⟨by decide +kernel, rfl⟩
theorem dX7_undo_27 : Dc cX7_undo 27 (.aload_n 0) 1 28 := ⟨by decide +kernel, rfl⟩
theorem dX7_undo_28 : Dc cX7_undo 28 (.getfield 41) 3 31 := ⟨by decide +kernel, rfl⟩
theorem dX7_undo_31 : Dc cX7_undo 31 (.imul) 1 32 := ⟨by decide +kernel, rfl⟩
theorem dX7_undo_32 : Dc cX7_undo 32 (.aload_n 0) 1 33 := ⟨by decide +kernel, rfl⟩
theorem dX7_undo_33 : Dc cX7_undo 33 (.getfield 7) 3 36 := ⟨by decide +kernel, rfl⟩
theorem dX7_undo_36 : Dc cX7_undo 36 (.iconst 0) 1 37 := ⟨by decide +kernel, rfl⟩
theorem dX7_undo_37 : Dc cX7_undo 37 (.invokestatic 45) 3 40 := ⟨by decide +kernel, rfl⟩
theorem dX7_undo_40 : Dc cX7_undo 40 (.aload_n 0) 1 41 := ⟨by decide +kernel, rfl⟩
theorem dX7_undo_41 : Dc cX7_undo 41 (.getfield 41) 3 44 := ⟨by decide +kernel, rfl⟩
theorem dX7_undo_44 : Dc cX7_undo 44 (.ireturn) 1 45 := ⟨by decide +kernel, rfl⟩
theorem dX7_keep_0 : Dc cX7_keep 0 (.aload_n 0) 1 1 := ⟨by decide +kernel, rfl⟩
theorem dX7_keep_1 : Dc cX7_keep 1 (.getfield 7) 3 4 := ⟨by decide +kernel, rfl⟩
theorem dX7_keep_4 : Dc cX7_keep 4 (.iconst 0) 1 5 := ⟨by decide +kernel, rfl⟩
theorem dX7_keep_5 : Dc cX7_keep 5 (.aload_n 0) 1 6 := ⟨by decide +kernel, rfl⟩
theorem dX7_keep_6 : Dc cX7_keep 6 (.getfield 19) 3 9 := ⟨by decide +kernel, rfl⟩
theorem dX7_keep_9 : Dc cX7_keep 9 (.iconst 0) 1 10 := ⟨by decide +kernel, rfl⟩
theorem dX7_keep_10 : Dc cX7_keep 10 (.invokestatic 45) 3 13 := ⟨by decide +kernel, rfl⟩
theorem dX7_keep_13 : Dc cX7_keep 13 (.aload_n 0) 1 14 := ⟨by decide +kernel, rfl⟩
theorem dX7_keep_14 : Dc cX7_keep 14 (.iconst 1) 1 15 := ⟨by decide +kernel, rfl⟩
theorem dX7_keep_15 : Dc cX7_keep 15 (.putfield 49) 3 18 := ⟨by decide +kernel, rfl⟩
theorem dX7_keep_18 : Dc cX7_keep 18 (.aload_n 0) 1 19 := ⟨by decide +kernel, rfl⟩
theorem dX7_keep_19 : Dc cX7_keep 19 (.getfield 7) 3 22 := ⟨by decide +kernel, rfl⟩
theorem dX7_keep_22 : Dc cX7_keep 22 (.bipush 31) 2 24 := ⟨by decide +kernel, rfl⟩
theorem dX7_keep_24 : Dc cX7_keep 24 (.iaload) 1 25 := ⟨by decide +kernel, rfl⟩
theorem dX7_keep_25 : Dc cX7_keep 25 (.ireturn) 1 26 := ⟨by decide +kernel, rfl⟩
theorem dX7_restore_0 : Dc cX7_restore 0 (.aload_n 0) 1 1 := ⟨by decide +kernel, rfl⟩
theorem dX7_restore_1 : Dc cX7_restore 1 (.getfield 49) 3 4 := ⟨by decide +kernel, rfl⟩
theorem dX7_restore_4 : Db cX7_restore 4 (fun o => .ifCond .ne o) 7 10 := ⟨6, by decide +kernel, rfl, rfl⟩
theorem dX7_restore_7 : Dc cX7_restore 7 (.bipush (-5)) 2 9 := ⟨by decide +kernel, rfl⟩
theorem dX7_restore_9 : Dc cX7_restore 9 (.ireturn) 1 10 := ⟨by decide +kernel, rfl⟩
theorem dX7_restore_10 : Dc cX7_restore 10 (.aload_n 0) 1 11 := ⟨by decide +kernel, rfl⟩
theorem dX7_restore_11 : Dc cX7_restore 11 (.invokevirtual 53) 3 14 := ⟨by decide +kernel, rfl⟩
theorem dX7_restore_14 : Dc cX7_restore 14 (.aload_n 0) 1 15 := ⟨by decide +kernel, rfl⟩
theorem dX7_restore_15 : Dc cX7_restore 15 (.getfield 19) 3 18 := ⟨by decide +kernel, rfl⟩
theorem dX7_restore_18 : Dc cX7_restore 18 (.iconst 0) 1 19 := ⟨by decide +kernel, rfl⟩
theorem dX7_restore_19 : Dc cX7_restore 19 (.aload_n 0) 1 20 := ⟨by decide +kernel, rfl⟩
theorem dX7_restore_20 : Dc cX7_restore 20 (.getfield 7) 3 23 := ⟨by decide +kernel, rfl⟩
theorem dX7_restore_23 : Dc cX7_restore 23 (.iconst 0) 1 24 := ⟨by decide +kernel, rfl⟩
theorem dX7_restore_24 : Dc cX7_restore 24 (.invokestatic 45) 3 27 := ⟨by decide +kernel, rfl⟩
theorem dX7_restore_27 : Dc cX7_restore 27 (.aload_n 0) 1 28 := ⟨by decide +kernel, rfl⟩
theorem dX7_restore_28 : Dc cX7_restore 28 (.getfield 7) 3 31 := ⟨by decide +kernel, rfl⟩
theorem dX7_restore_31 : Dc cX7_restore 31 (.bipush 31) 2 33 := ⟨by decide +kernel, rfl⟩
theorem dX7_restore_33 : Dc cX7_restore 33 (.iaload) 1 34 := ⟨by decide +kernel, rfl⟩
theorem dX7_restore_34 : Dc cX7_restore 34 (.ireturn) 1 35 := ⟨by decide +kernel, rfl⟩
theorem dX7_doStep_0 : Dc cX7_doStep 0 (.aload_n 0) 1 1 := ⟨by decide +kernel, rfl⟩
theorem dX7_doStep_1 : Dc cX7_doStep 1 (.getfield 7) 3 4 := ⟨by decide +kernel, rfl⟩
theorem dX7_doStep_4 : Dc cX7_doStep 4 (.bipush 30) 2 6 := ⟨by decide +kernel, rfl⟩
theorem dX7_doStep_6 : Dc cX7_doStep 6 (.iaload) 1 7 := ⟨by decide +kernel, rfl⟩
theorem dX7_doStep_7 : Dc cX7_doStep 7 (.istore_n 3) 1 8 := ⟨by decide +kernel, rfl⟩
theorem dX7_doStep_8 : Dc cX7_doStep 8 (.aload_n 0) 1 9 := ⟨by decide +kernel, rfl⟩
theorem dX7_doStep_9 : Dc cX7_doStep 9 (.getfield 7) 3 12 := ⟨by decide +kernel, rfl⟩
theorem dX7_doStep_12 : Dc cX7_doStep 12 (.iload_n 3) 1 13 := ⟨by decide +kernel, rfl⟩
theorem dX7_doStep_13 : Dc cX7_doStep 13 (.iaload) 1 14 := ⟨by decide +kernel, rfl⟩
theorem dX7_doStep_14 : Dc cX7_doStep 14 (.istore 4) 2 16 := ⟨by decide +kernel, rfl⟩
theorem dX7_doStep_16 : Dc cX7_doStep 16 (.aload_n 0) 1 17 := ⟨by decide +kernel, rfl⟩
theorem dX7_doStep_17 : Dc cX7_doStep 17 (.getfield 7) 3 20 := ⟨by decide +kernel, rfl⟩
theorem dX7_doStep_20 : Dc cX7_doStep 20 (.bipush 34) 2 22 := ⟨by decide +kernel, rfl⟩
theorem dX7_doStep_22 : Dc cX7_doStep 22 (.dup2) 1 23 := ⟨by decide +kernel, rfl⟩
theorem dX7_doStep_23 : Dc cX7_doStep 23 (.iaload) 1 24 := ⟨by decide +kernel, rfl⟩
theorem dX7_doStep_24 : Dc cX7_doStep 24 (.iconst 1) 1 25 := ⟨by decide +kernel, rfl⟩
theorem dX7_doStep_25 : Dc cX7_doStep 25 (.iadd) 1 26 := ⟨by decide +kernel, rfl⟩
theorem dX7_doStep_26 : Dc cX7_doStep 26 (.iastore) 1 27 := ⟨by decide +kernel, rfl⟩
theorem dX7_doStep_27 : Dc cX7_doStep 27 (.iload_n 1) 1 28 := ⟨by decide +kernel, rfl⟩
theorem dX7_doStep_28 : decode cX7_doStep 28 = .ok (.tableswitch 106 0 4 #[36, 46, 55, 70, 84], 36) := by decide +kernel
theorem dX7_doStep_64 : Dc cX7_doStep 64 (.aload_n 0) 1 65 := ⟨by decide +kernel, rfl⟩
theorem dX7_doStep_65 : Dc cX7_doStep 65 (.getfield 7) 3 68 := ⟨by decide +kernel, rfl⟩
theorem dX7_doStep_68 : Dc cX7_doStep 68 (.bipush 30) 2 70 := ⟨by decide +kernel, rfl⟩
theorem dX7_doStep_70 : Dc cX7_doStep 70 (.iload_n 2) 1 71 := ⟨by decide +kernel, rfl⟩
theorem dX7_doStep_71 : Dc cX7_doStep 71 (.iastore) 1 72 := ⟨by decide +kernel, rfl⟩
theorem dX7_doStep_72 : Dc cX7_doStep 72 (.iconst 1) 1 73 := ⟨by decide +kernel, rfl⟩
theorem dX7_doStep_73 : Dc cX7_doStep 73 (.ireturn) 1 74 := ⟨by decide +kernel, rfl⟩
theorem dX7_doStep_74 : Dc cX7_doStep 74 (.aload_n 0) 1 75 := ⟨by decide +kernel, rfl⟩
theorem dX7_doStep_75 : Dc cX7_doStep 75 (.getfield 7) 3 78 := ⟨by decide +kernel, rfl⟩
theorem dX7_doStep_78 : Dc cX7_doStep 78 (.iload_n 3) 1 79 := ⟨by decide +kernel, rfl⟩
theorem dX7_doStep_79 : Dc cX7_doStep 79 (.iload_n 2) 1 80 := ⟨by decide +kernel, rfl⟩
theorem dX7_doStep_80 : Dc cX7_doStep 80 (.iastore) 1 81 := ⟨by decide +kernel, rfl⟩
theorem dX7_doStep_81 : Dc cX7_doStep 81 (.iconst 1) 1 82 := ⟨by decide +kernel, rfl⟩
theorem dX7_doStep_82 : Dc cX7_doStep 82 (.ireturn) 1 83 := ⟨by decide +kernel, rfl⟩
theorem dX7_doStep_83 : Dc cX7_doStep 83 (.aload_n 0) 1 84 := ⟨by decide +kernel, rfl⟩
theorem dX7_doStep_84 : Dc cX7_doStep 84 (.getfield 7) 3 87 := ⟨by decide +kernel, rfl⟩
theorem dX7_doStep_87 : Dc cX7_doStep 87 (.iload_n 3) 1 88 := ⟨by decide +kernel, rfl⟩
theorem dX7_doStep_88 : Dc cX7_doStep 88 (.iload 4) 2 90 := ⟨by decide +kernel, rfl⟩
theorem dX7_doStep_90 : Dc cX7_doStep 90 (.iload_n 2) 1 91 := ⟨by decide +kernel, rfl⟩
theorem dX7_doStep_91 : Dc cX7_doStep 91 (.iadd) 1 92 := ⟨by decide +kernel, rfl⟩
theorem dX7_doStep_92 : Dc cX7_doStep 92 (.bipush 100) 2 94 := ⟨by decide +kernel, rfl⟩
theorem dX7_doStep_94 : Dc cX7_doStep 94 (.irem) 1 95 := ⟨by decide +kernel, rfl⟩
theorem dX7_doStep_95 : Dc cX7_doStep 95 (.iastore) 1 96 := ⟨by decide +kernel, rfl⟩
theorem dX7_doStep_96 : Dc cX7_doStep 96 (.iconst 1) 1 97 := ⟨by decide +kernel, rfl⟩
theorem dX7_doStep_97 : Dc cX7_doStep 97 (.ireturn) 1 98 := ⟨by decide +kernel, rfl⟩
theorem dX7_doStep_98 : Dc cX7_doStep 98 (.aload_n 0) 1 99 := ⟨by decide +kernel, rfl⟩
theorem dX7_doStep_99 : Dc cX7_doStep 99 (.getfield 7) 3 102 := ⟨by decide +kernel, rfl⟩
theorem dX7_doStep_102 : Dc cX7_doStep 102 (.iload_n 3) 1 103 := ⟨by decide +kernel, rfl⟩
theorem dX7_doStep_103 : Dc cX7_doStep 103 (.aload_n 0) 1 104 := ⟨by decide +kernel, rfl⟩
theorem dX7_doStep_104 : Dc cX7_doStep 104 (.getfield 7) 3 107 := ⟨by decide +kernel, rfl⟩
theorem dX7_doStep_107 : Dc cX7_doStep 107 (.iload_n 2) 1 108 := ⟨by decide +kernel, rfl⟩
theorem dX7_doStep_108 : Dc cX7_doStep 108 (.iaload) 1 109 := ⟨by decide +kernel, rfl⟩
theorem dX7_doStep_109 : Dc cX7_doStep 109 (.iastore) 1 110 := ⟨by decide +kernel, rfl⟩
theorem dX7_doStep_110 : Dc cX7_doStep 110 (.iconst 1) 1 111 := ⟨by decide +kernel, rfl⟩
theorem dX7_doStep_111 : Dc cX7_doStep 111 (.ireturn) 1 112 := ⟨by decide +kernel, rfl⟩
theorem dX7_doStep_112 : Dc cX7_doStep 112 (.aload_n 0) 1 113 := ⟨by decide +kernel, rfl⟩
theorem dX7_doStep_113 : Dc cX7_doStep 113 (.getfield 7) 3 116 := ⟨by decide +kernel, rfl⟩
theorem dX7_doStep_116 : Dc cX7_doStep 116 (.iload_n 3) 1 117 := ⟨by decide +kernel, rfl⟩
theorem dX7_doStep_117 : Dc cX7_doStep 117 (.aload_n 0) 1 118 := ⟨by decide +kernel, rfl⟩
theorem dX7_doStep_118 : Dc cX7_doStep 118 (.getfield 7) 3 121 := ⟨by decide +kernel, rfl⟩
theorem dX7_doStep_121 : Dc cX7_doStep 121 (.iload_n 2) 1 122 := ⟨by decide +kernel, rfl⟩
theorem dX7_doStep_122 : Dc cX7_doStep 122 (.iaload) 1 123 := ⟨by decide +kernel, rfl⟩
theorem dX7_doStep_123 : Dc cX7_doStep 123 (.iastore) 1 124 := ⟨by decide +kernel, rfl⟩
theorem dX7_doStep_124 : Dc cX7_doStep 124 (.aload_n 0) 1 125 := ⟨by decide +kernel, rfl⟩
theorem dX7_doStep_125 : Dc cX7_doStep 125 (.getfield 7) 3 128 := ⟨by decide +kernel, rfl⟩
theorem dX7_doStep_128 : Dc cX7_doStep 128 (.iload_n 2) 1 129 := ⟨by decide +kernel, rfl⟩
theorem dX7_doStep_129 : Dc cX7_doStep 129 (.iload 4) 2 131 := ⟨by decide +kernel, rfl⟩
theorem dX7_doStep_131 : Dc cX7_doStep 131 (.iastore) 1 132 := ⟨by decide +kernel, rfl⟩
theorem dX7_doStep_132 : Dc cX7_doStep 132 (.iconst 1) 1 133 := ⟨by decide +kernel, rfl⟩
theorem dX7_doStep_133 : Dc cX7_doStep 133 (.ireturn) 1 134 := ⟨by decide +kernel, rfl⟩
theorem dX7_doStep_134 : Dc cX7_doStep 134 (.aload_n 0) 1 135 := ⟨by decide +kernel, rfl⟩
theorem dX7_doStep_135 : Dc cX7_doStep 135 (.getfield 7) 3 138 := ⟨by decide +kernel, rfl⟩
theorem dX7_doStep_138 : Dc cX7_doStep 138 (.bipush 35) 2 140 := ⟨by decide +kernel, rfl⟩
theorem dX7_doStep_140 : Dc cX7_doStep 140 (.dup2) 1 141 := ⟨by decide +kernel, rfl⟩
theorem dX7_doStep_141 : Dc cX7_doStep 141 (.iaload) 1 142 := ⟨by decide +kernel, rfl⟩
theorem dX7_doStep_142 : Dc cX7_doStep 142 (.iload 4) 2 144 := ⟨by decide +kernel, rfl⟩
theorem dX7_doStep_144 : Dc cX7_doStep 144 (.iload_n 2) 1 145 := ⟨by decide +kernel, rfl⟩
theorem dX7_doStep_145 : Db cX7_doStep 145 (fun o => .if_icmp .le o) 148 152 := ⟨7, by decide +kernel, rfl, rfl⟩
theorem dX7_doStep_148 : Dc cX7_doStep 148 (.iconst 1) 1 149 := ⟨by decide +kernel, rfl⟩
theorem dX7_doStep_149 : Db cX7_doStep 149 .goto 152 153 := ⟨4, by decide +kernel, rfl, rfl⟩
theorem dX7_doStep_152 : Dc cX7_doStep 152 (.iconst 0) 1 153 := ⟨by decide +kernel, rfl⟩
theorem dX7_doStep_153 : Dc cX7_doStep 153 (.iadd) 1 154 := ⟨by decide +kernel, rfl⟩
theorem dX7_doStep_154 : Dc cX7_doStep 154 (.iastore) 1 155 := ⟨by decide +kernel, rfl⟩
theorem dX7_doStep_155 : Dc cX7_doStep 155 (.iload 4) 2 157 := ⟨by decide +kernel, rfl⟩
theorem dX7_doStep_157 : Dc cX7_doStep 157 (.iload_n 2) 1 158 := ⟨by decide +kernel, rfl⟩
theorem dX7_doStep_158 : Db cX7_doStep 158 (fun o => .if_icmp .gt o) 161 165 := ⟨7, by decide +kernel, rfl, rfl⟩
theorem dX7_doStep_161 : Dc cX7_doStep 161 (.iconst 1) 1 162 := ⟨by decide +kernel, rfl⟩
theorem dX7_doStep_162 : Db cX7_doStep 162 .goto 165 166 := ⟨4, by decide +kernel, rfl, rfl⟩
theorem dX7_doStep_165 : Dc cX7_doStep 165 (.iconst 0) 1 166 := ⟨by decide +kernel, rfl⟩
theorem dX7_doStep_166 : Dc cX7_doStep 166 (.ireturn) 1 167 := ⟨by decide +kernel, rfl⟩
theorem dX7_step_0 : Dc cX7_step 0 (.iload_n 1) 1 1 := ⟨by decide +kernel, rfl⟩
theorem dX7_step_1 : Dc cX7_step 1 (.iconst 0) 1 2 := ⟨by decide +kernel, rfl⟩
theorem dX7_step_2 : Dc cX7_step 2 (.iconst 5) 1 3 := ⟨by decide +kernel, rfl⟩
theorem dX7_step_3 : Dc cX7_step 3 (.invokestatic 37) 3 6 := ⟨by decide +kernel, rfl⟩
theorem dX7_step_6 : Db cX7_step 6 (fun o => .ifCond .ne o) 9 11 := ⟨5, by decide +kernel, rfl, rfl⟩
theorem dX7_step_9 : Dc cX7_step 9 (.iconst (-1)) 1 10 := ⟨by decide +kernel, rfl⟩
theorem dX7_step_10 : Dc cX7_step 10 (.ireturn) 1 11 := ⟨by decide +kernel, rfl⟩
theorem dX7_step_11 : Dc cX7_step 11 (.iload_n 2) 1 12 := ⟨by decide +kernel, rfl⟩
theorem dX7_step_12 : Dc cX7_step 12 (.iconst 0) 1 13 := ⟨by decide +kernel, rfl⟩
theorem dX7_step_13 : Dc cX7_step 13 (.iload_n 1) 1 14 := ⟨by decide +kernel, rfl⟩
theorem dX7_step_14 : Dc cX7_step 14 (.invokestatic 56) 3 17 := ⟨by decide +kernel, rfl⟩
theorem dX7_step_17 : Dc cX7_step 17 (.invokestatic 37) 3 20 := ⟨by decide +kernel, rfl⟩
theorem dX7_step_20 : Db cX7_step 20 (fun o => .ifCond .ne o) 23 26 := ⟨6, by decide +kernel, rfl, rfl⟩
theorem dX7_step_23 : Dc cX7_step 23 (.bipush (-2)) 2 25 := ⟨by decide +kernel, rfl⟩
theorem dX7_step_25 : Dc cX7_step 25 (.ireturn) 1 26 := ⟨by decide +kernel, rfl⟩
theorem dX7_step_26 : Dc cX7_step 26 (.aload_n 0) 1 27 := ⟨by decide +kernel, rfl⟩
theorem dX7_step_27 : Dc cX7_step 27 (.getfield 7) 3 30 := ⟨by decide +kernel, rfl⟩
theorem dX7_step_30 : Dc cX7_step 30 (.bipush 32) 2 32 := ⟨by decide +kernel, rfl⟩
theorem dX7_step_32 : Dc cX7_step 32 (.iaload) 1 33 := ⟨by decide +kernel, rfl⟩
theorem dX7_step_33 : Dc cX7_step 33 (.iconst 1) 1 34 := ⟨by decide +kernel, rfl⟩
theorem dX7_step_34 : Db cX7_step 34 (fun o => .if_icmp .ne o) 37 56 := ⟨22, by decide +kernel, rfl, rfl⟩
theorem dX7_step_37 : Dc cX7_step 37 (.aload_n 0) 1 38 := ⟨by decide +kernel, rfl⟩
theorem dX7_step_38 : Dc cX7_step 38 (.aload_n 0) 1 39 := ⟨by decide +kernel, rfl⟩
theorem dX7_step_39 : Dc cX7_step 39 (.getfield 7) 3 42 := ⟨by decide +kernel, rfl⟩
theorem dX7_step_42 : Dc cX7_step 42 (.bipush 31) 2 44 := ⟨by decide +kernel, rfl⟩
theorem dX7_step_44 : Dc cX7_step 44 (.iaload) 1 45 := ⟨by decide +kernel, rfl⟩
theorem dX7_step_45 : Dc cX7_step 45 (.invokevirtual 60) 3 48 := ⟨by decide +kernel, rfl⟩
theorem dX7_step_48 : Dc cX7_step 48 (.bipush 12) 2 50 := ⟨by decide +kernel, rfl⟩
theorem dX7_step_50 : Db cX7_step 50 (fun o => .if_icmp .ne o) 53 56 := ⟨6, by decide +kernel, rfl, rfl⟩
theorem dX7_step_53 : Dc cX7_step 53 (.bipush (-3)) 2 55 := ⟨by decide +kernel, rfl⟩
theorem dX7_step_55 : Dc cX7_step 55 (.ireturn) 1 56 := ⟨by decide +kernel, rfl⟩
theorem dX7_step_56 : Dc cX7_step 56 (.aload_n 0) 1 57 := ⟨by decide +kernel, rfl⟩
theorem dX7_step_57 : Dc cX7_step 57 (.invokevirtual 53) 3 60 := ⟨by decide +kernel, rfl⟩
theorem dX7_step_60 : Dc cX7_step 60 (.aload_n 0) 1 61 := ⟨by decide +kernel, rfl⟩
theorem dX7_step_61 : Dc cX7_step 61 (.getfield 7) 3 64 := ⟨by decide +kernel, rfl⟩
theorem dX7_step_64 : Dc cX7_step 64 (.bipush 32) 2 66 := ⟨by decide +kernel, rfl⟩
theorem dX7_step_66 : Dc cX7_step 66 (.iaload) 1 67 := ⟨by decide +kernel, rfl⟩
theorem dX7_step_67 : Dc cX7_step 67 (.iconst 1) 1 68 := ⟨by decide +kernel, rfl⟩
theorem dX7_step_68 : Db cX7_step 68 (fun o => .if_icmp .ne o) 71 131 := ⟨63, by decide +kernel, rfl, rfl⟩
theorem dX7_step_71 : Dc cX7_step 71 (.bipush 38) 2 73 := ⟨by decide +kernel, rfl⟩
theorem dX7_step_73 : Dc cX7_step 73 (.bipush 25) 2 75 := ⟨by decide +kernel, rfl⟩
theorem dX7_step_75 : Dc cX7_step 75 (.aload_n 0) 1 76 := ⟨by decide +kernel, rfl⟩
theorem dX7_step_76 : Dc cX7_step 76 (.getfield 7) 3 79 := ⟨by decide +kernel, rfl⟩
theorem dX7_step_79 : Dc cX7_step 79 (.bipush 31) 2 81 := ⟨by decide +kernel, rfl⟩
theorem dX7_step_81 : Dc cX7_step 81 (.iaload) 1 82 := ⟨by decide +kernel, rfl⟩
theorem dX7_step_82 : Dc cX7_step 82 (.imul) 1 83 := ⟨by decide +kernel, rfl⟩
theorem dX7_step_83 : Dc cX7_step 83 (.iadd) 1 84 := ⟨by decide +kernel, rfl⟩
theorem dX7_step_84 : Dc cX7_step 84 (.istore_n 3) 1 85 := ⟨by decide +kernel, rfl⟩
theorem dX7_step_85 : Dc cX7_step 85 (.aload_n 0) 1 86 := ⟨by decide +kernel, rfl⟩
theorem dX7_step_86 : Dc cX7_step 86 (.getfield 7) 3 89 := ⟨by decide +kernel, rfl⟩
theorem dX7_step_89 : Dc cX7_step 89 (.iload_n 3) 1 90 := ⟨by decide +kernel, rfl⟩
theorem dX7_step_90 : Dc cX7_step 90 (.iconst 1) 1 91 := ⟨by decide +kernel, rfl⟩
theorem dX7_step_91 : Dc cX7_step 91 (.iadd) 1 92 := ⟨by decide +kernel, rfl⟩
theorem dX7_step_92 : Dc cX7_step 92 (.iconst 2) 1 93 := ⟨by decide +kernel, rfl⟩
theorem dX7_step_93 : Dc cX7_step 93 (.aload_n 0) 1 94 := ⟨by decide +kernel, rfl⟩
theorem dX7_step_94 : Dc cX7_step 94 (.getfield 7) 3 97 := ⟨by decide +kernel, rfl⟩
theorem dX7_step_97 : Dc cX7_step 97 (.iload_n 3) 1 98 := ⟨by decide +kernel, rfl⟩
theorem dX7_step_98 : Dc cX7_step 98 (.iaload) 1 99 := ⟨by decide +kernel, rfl⟩
theorem dX7_step_99 : Dc cX7_step 99 (.imul) 1 100 := ⟨by decide +kernel, rfl⟩
theorem dX7_step_100 : Dc cX7_step 100 (.iadd) 1 101 := ⟨by decide +kernel, rfl⟩
theorem dX7_step_101 : Dc cX7_step 101 (.iload_n 1) 1 102 := ⟨by decide +kernel, rfl⟩
theorem dX7_step_102 : Dc cX7_step 102 (.iastore) 1 103 := ⟨by decide +kernel, rfl⟩
theorem dX7_step_103 : Dc cX7_step 103 (.aload_n 0) 1 104 := ⟨by decide +kernel, rfl⟩
theorem dX7_step_104 : Dc cX7_step 104 (.getfield 7) 3 107 := ⟨by decide +kernel, rfl⟩
theorem dX7_step_107 : Dc cX7_step 107 (.iload_n 3) 1 108 := ⟨by decide +kernel, rfl⟩
theorem dX7_step_108 : Dc cX7_step 108 (.iconst 2) 1 109 := ⟨by decide +kernel, rfl⟩
theorem dX7_step_109 : Dc cX7_step 109 (.iadd) 1 110 := ⟨by decide +kernel, rfl⟩
theorem dX7_step_110 : Dc cX7_step 110 (.iconst 2) 1 111 := ⟨by decide +kernel, rfl⟩
theorem dX7_step_111 : Dc cX7_step 111 (.aload_n 0) 1 112 := ⟨by decide +kernel, rfl⟩
theorem dX7_step_112 : Dc cX7_step 112 (.getfield 7) 3 115 := ⟨by decide +kernel, rfl⟩
theorem dX7_step_115 : Dc cX7_step 115 (.iload_n 3) 1 116 := ⟨by decide +kernel, rfl⟩
theorem dX7_step_116 : Dc cX7_step 116 (.iaload) 1 117 := ⟨by decide +kernel, rfl⟩
theorem dX7_step_117 : Dc cX7_step 117 (.imul) 1 118 := ⟨by decide +kernel, rfl⟩
theorem dX7_step_118 : Dc cX7_step 118 (.iadd) 1 119 := ⟨by decide +kernel, rfl⟩
theorem dX7_step_119 : Dc cX7_step 119 (.iload_n 2) 1 120 := ⟨by decide +kernel, rfl⟩
theorem dX7_step_120 : Dc cX7_step 120 (.iastore) 1 121 := ⟨by decide +kernel, rfl⟩
theorem dX7_step_121 : Dc cX7_step 121 (.aload_n 0) 1 122 := ⟨by decide +kernel, rfl⟩
theorem dX7_step_122 : Dc cX7_step 122 (.getfield 7) 3 125 := ⟨by decide +kernel, rfl⟩
theorem dX7_step_125 : Dc cX7_step 125 (.iload_n 3) 1 126 := ⟨by decide +kernel, rfl⟩
theorem dX7_step_126 : Dc cX7_step 126 (.dup2) 1 127 := ⟨by decide +kernel, rfl⟩
theorem dX7_step_127 : Dc cX7_step 127 (.iaload) 1 128 := ⟨by decide +kernel, rfl⟩
theorem dX7_step_128 : Dc cX7_step 128 (.iconst 1) 1 129 := ⟨by decide +kernel, rfl⟩
theorem dX7_step_129 : Dc cX7_step 129 (.iadd) 1 130 := ⟨by decide +kernel, rfl⟩
theorem dX7_step_130 : Dc cX7_step 130 (.iastore) 1 131 := ⟨by decide +kernel, rfl⟩
theorem dX7_step_131 : Dc cX7_step 131 (.aload_n 0) 1 132 := ⟨by decide +kernel, rfl⟩
theorem dX7_step_132 : Dc cX7_step 132 (.iload_n 1) 1 133 := ⟨by decide +kernel, rfl⟩
theorem dX7_step_133 : Dc cX7_step 133 (.iload_n 2) 1 134 := ⟨by decide +kernel, rfl⟩
theorem dX7_step_134 : Dc cX7_step 134 (.invokevirtual 63) 3 137 := ⟨by decide +kernel, rfl⟩
theorem dX7_step_137 : Db cX7_step 137 (fun o => .ifCond .eq o) 140 155 := ⟨18, by decide +kernel, rfl, rfl⟩
theorem dX7_step_140 : Dc cX7_step 140 (.aload_n 0) 1 141 := ⟨by decide +kernel, rfl⟩
theorem dX7_step_141 : Dc cX7_step 141 (.getfield 7) 3 144 := ⟨by decide +kernel, rfl⟩
theorem dX7_step_144 : Dc cX7_step 144 (.aload_n 0) 1 145 := ⟨by decide +kernel, rfl⟩
theorem dX7_step_145 : Dc cX7_step 145 (.getfield 7) 3 148 := ⟨by decide +kernel, rfl⟩
theorem dX7_step_148 : Dc cX7_step 148 (.bipush 30) 2 150 := ⟨by decide +kernel, rfl⟩
theorem dX7_step_150 : Dc cX7_step 150 (.iaload) 1 151 := ⟨by decide +kernel, rfl⟩
theorem dX7_step_151 : Dc cX7_step 151 (.iaload) 1 152 := ⟨by decide +kernel, rfl⟩
theorem dX7_step_152 : Db cX7_step 152 .goto 155 157 := ⟨5, by decide +kernel, rfl, rfl⟩
theorem dX7_step_155 : Dc cX7_step 155 (.bipush 100) 2 157 := ⟨by decide +kernel, rfl⟩
theorem dX7_step_157 : Dc cX7_step 157 (.ireturn) 1 158 := ⟨by decide +kernel, rfl⟩
theorem dX7_record_0 : Dc cX7_record 0 (.aload_n 0) 1 1 := ⟨by decide +kernel, rfl⟩
theorem dX7_record_1 : Dc cX7_record 1 (.getfield 7) 3 4 := ⟨by decide +kernel, rfl⟩
theorem dX7_record_4 : Dc cX7_record 4 (.bipush 32) 2 6 := ⟨by decide +kernel, rfl⟩
theorem dX7_record_6 : Dc cX7_record 6 (.iaload) 1 7 := ⟨by decide +kernel, rfl⟩
theorem dX7_record_7 : Dc cX7_record 7 (.iconst 1) 1 8 := ⟨by decide +kernel, rfl⟩
theorem dX7_record_8 : Db cX7_record 8 (fun o => .if_icmp .eq o) 11 23 := ⟨15, by decide +kernel, rfl, rfl⟩
theorem dX7_record_11 : Dc cX7_record 11 (.aload_n 0) 1 12 := ⟨by decide +kernel, rfl⟩
theorem dX7_record_12 : Dc cX7_record 12 (.getfield 7) 3 15 := ⟨by decide +kernel, rfl⟩
theorem dX7_record_15 : Dc cX7_record 15 (.bipush 31) 2 17 := ⟨by decide +kernel, rfl⟩
theorem dX7_record_17 : Dc cX7_record 17 (.iaload) 1 18 := ⟨by decide +kernel, rfl⟩
theorem dX7_record_18 : Dc cX7_record 18 (.bipush 6) 2 20 := ⟨by decide +kernel, rfl⟩
theorem dX7_record_20 : Db cX7_record 20 (fun o => .if_icmp .ne o) 23 42 := ⟨22, by decide +kernel, rfl, rfl⟩
theorem dX7_record_23 : Dc cX7_record 23 (.aload_n 0) 1 24 := ⟨by decide +kernel, rfl⟩
theorem dX7_record_24 : Dc cX7_record 24 (.getfield 7) 3 27 := ⟨by decide +kernel, rfl⟩
theorem dX7_record_27 : Dc cX7_record 27 (.bipush 32) 2 29 := ⟨by decide +kernel, rfl⟩
theorem dX7_record_29 : Dc cX7_record 29 (.iaload) 1 30 := ⟨by decide +kernel, rfl⟩
theorem dX7_record_30 : Dc cX7_record 30 (.iconst 1) 1 31 := ⟨by decide +kernel, rfl⟩
theorem dX7_record_31 : Db cX7_record 31 (fun o => .if_icmp .ne o) 34 39 := ⟨8, by decide +kernel, rfl, rfl⟩
theorem dX7_record_34 : Dc cX7_record 34 (.bipush (-4)) 2 36 := ⟨by decide +kernel, rfl⟩
theorem dX7_record_36 : Db cX7_record 36 .goto 39 41 := ⟨5, by decide +kernel, rfl, rfl⟩
theorem dX7_record_39 : Dc cX7_record 39 (.bipush (-3)) 2 41 := ⟨by decide +kernel, rfl⟩
theorem dX7_record_41 : Dc cX7_record 41 (.ireturn) 1 42 := ⟨by decide +kernel, rfl⟩
theorem dX7_record_42 : Dc cX7_record 42 (.aload_n 0) 1 43 := ⟨by decide +kernel, rfl⟩
theorem dX7_record_43 : Dc cX7_record 43 (.invokevirtual 53) 3 46 := ⟨by decide +kernel, rfl⟩
theorem dX7_record_46 : Dc cX7_record 46 (.aload_n 0) 1 47 := ⟨by decide +kernel, rfl⟩
theorem dX7_record_47 : Dc cX7_record 47 (.getfield 7) 3 50 := ⟨by decide +kernel, rfl⟩
theorem dX7_record_50 : Dc cX7_record 50 (.bipush 32) 2 52 := ⟨by decide +kernel, rfl⟩
theorem dX7_record_52 : Dc cX7_record 52 (.iconst 1) 1 53 := ⟨by decide +kernel, rfl⟩
theorem dX7_record_53 : Dc cX7_record 53 (.iastore) 1 54 := ⟨by decide +kernel, rfl⟩
theorem dX7_record_54 : Dc cX7_record 54 (.iconst 0) 1 55 := ⟨by decide +kernel, rfl⟩
theorem dX7_record_55 : Dc cX7_record 55 (.istore_n 1) 1 56 := ⟨by decide +kernel, rfl⟩
theorem dX7_record_56 : Dc cX7_record 56 (.iload_n 1) 1 57 := ⟨by decide +kernel, rfl⟩
theorem dX7_record_57 : Dc cX7_record 57 (.bipush 25) 2 59 := ⟨by decide +kernel, rfl⟩
theorem dX7_record_59 : Db cX7_record 59 (fun o => .if_icmp .ge o) 62 89 := ⟨30, by decide +kernel, rfl, rfl⟩
theorem dX7_record_62 : Dc cX7_record 62 (.aload_n 0) 1 63 := ⟨by decide +kernel, rfl⟩
theorem dX7_record_63 : Dc cX7_record 63 (.getfield 7) 3 66 := ⟨by decide +kernel, rfl⟩
theorem dX7_record_66 : Dc cX7_record 66 (.bipush 38) 2 68 := ⟨by decide +kernel, rfl⟩
theorem dX7_record_68 : Dc cX7_record 68 (.bipush 25) 2 70 := ⟨by decide +kernel, rfl⟩
theorem dX7_record_70 : Dc cX7_record 70 (.aload_n 0) 1 71 := ⟨by decide +kernel, rfl⟩
theorem dX7_record_71 : Dc cX7_record 71 (.getfield 7) 3 74 := ⟨by decide +kernel, rfl⟩
theorem dX7_record_74 : Dc cX7_record 74 (.bipush 31) 2 76 := ⟨by decide +kernel, rfl⟩
theorem dX7_record_76 : Dc cX7_record 76 (.iaload) 1 77 := ⟨by decide +kernel, rfl⟩
theorem dX7_record_77 : Dc cX7_record 77 (.imul) 1 78 := ⟨by decide +kernel, rfl⟩
theorem dX7_record_78 : Dc cX7_record 78 (.iadd) 1 79 := ⟨by decide +kernel, rfl⟩
theorem dX7_record_79 : Dc cX7_record 79 (.iload_n 1) 1 80 := ⟨by decide +kernel, rfl⟩
theorem dX7_record_80 : Dc cX7_record 80 (.iadd) 1 81 := ⟨by decide +kernel, rfl⟩
theorem dX7_record_81 : Dc cX7_record 81 (.iconst 0) 1 82 := ⟨by decide +kernel, rfl⟩
theorem dX7_record_82 : Dc cX7_record 82 (.iastore) 1 83 := ⟨by decide +kernel, rfl⟩
theorem dX7_record_83 : Dc cX7_record 83 (.iinc 1 1) 3 86 := ⟨by decide +kernel, rfl⟩
theorem dX7_record_86 : Db cX7_record 86 .goto 89 56 := ⟨-30, by decide +kernel, rfl, rfl⟩
theorem dX7_record_89 : Dc cX7_record 89 (.aload_n 0) 1 90 := ⟨by decide +kernel, rfl⟩
theorem dX7_record_90 : Dc cX7_record 90 (.getfield 7) 3 93 := ⟨by decide +kernel, rfl⟩
theorem dX7_record_93 : Dc cX7_record 93 (.bipush 31) 2 95 := ⟨by decide +kernel, rfl⟩
theorem dX7_record_95 : Dc cX7_record 95 (.iaload) 1 96 := ⟨by decide +kernel, rfl⟩
theorem dX7_record_96 : Dc cX7_record 96 (.ireturn) 1 97 := ⟨by decide +kernel, rfl⟩
theorem dX7_end_0 : Dc cX7_end 0 (.aload_n 0) 1 1 := ⟨by decide +kernel, rfl⟩
theorem dX7_end_1 : Dc cX7_end 1 (.getfield 7) 3 4 := ⟨by decide +kernel, rfl⟩
theorem dX7_end_4 : Dc cX7_end 4 (.bipush 32) 2 6 := ⟨by decide +kernel, rfl⟩
theorem dX7_end_6 : Dc cX7_end 6 (.iaload) 1 7 := ⟨by decide +kernel, rfl⟩
theorem dX7_end_7 : Db cX7_end 7 (fun o => .ifCond .ne o) 10 13 := ⟨6, by decide +kernel, rfl, rfl⟩
theorem dX7_end_10 : Dc cX7_end 10 (.bipush (-4)) 2 12 := ⟨by decide +kernel, rfl⟩
theorem dX7_end_12 : Dc cX7_end 12 (.ireturn) 1 13 := ⟨by decide +kernel, rfl⟩
theorem dX7_end_13 : Dc cX7_end 13 (.aload_n 0) 1 14 := ⟨by decide +kernel, rfl⟩
theorem dX7_end_14 : Dc cX7_end 14 (.invokevirtual 53) 3 17 := ⟨by decide +kernel, rfl⟩
theorem dX7_end_17 : Dc cX7_end 17 (.aload_n 0) 1 18 := ⟨by decide +kernel, rfl⟩
theorem dX7_end_18 : Dc cX7_end 18 (.getfield 7) 3 21 := ⟨by decide +kernel, rfl⟩
theorem dX7_end_21 : Dc cX7_end 21 (.bipush 32) 2 23 := ⟨by decide +kernel, rfl⟩
theorem dX7_end_23 : Dc cX7_end 23 (.iconst 0) 1 24 := ⟨by decide +kernel, rfl⟩
theorem dX7_end_24 : Dc cX7_end 24 (.iastore) 1 25 := ⟨by decide +kernel, rfl⟩
theorem dX7_end_25 : Dc cX7_end 25 (.aload_n 0) 1 26 := ⟨by decide +kernel, rfl⟩
theorem dX7_end_26 : Dc cX7_end 26 (.aload_n 0) 1 27 := ⟨by decide +kernel, rfl⟩
theorem dX7_end_27 : Dc cX7_end 27 (.getfield 7) 3 30 := ⟨by decide +kernel, rfl⟩
theorem dX7_end_30 : Dc cX7_end 30 (.bipush 31) 2 32 := ⟨by decide +kernel, rfl⟩
theorem dX7_end_32 : Dc cX7_end 32 (.iaload) 1 33 := ⟨by decide +kernel, rfl⟩
theorem dX7_end_33 : Dc cX7_end 33 (.invokevirtual 60) 3 36 := ⟨by decide +kernel, rfl⟩
theorem dX7_end_36 : Db cX7_end 36 (fun o => .ifCond .ne o) 39 42 := ⟨6, by decide +kernel, rfl, rfl⟩
theorem dX7_end_39 : Dc cX7_end 39 (.bipush 100) 2 41 := ⟨by decide +kernel, rfl⟩
theorem dX7_end_41 : Dc cX7_end 41 (.ireturn) 1 42 := ⟨by decide +kernel, rfl⟩
theorem dX7_end_42 : Dc cX7_end 42 (.aload_n 0) 1 43 := ⟨by decide +kernel, rfl⟩
theorem dX7_end_43 : Dc cX7_end 43 (.getfield 7) 3 46 := ⟨by decide +kernel, rfl⟩
theorem dX7_end_46 : Dc cX7_end 46 (.bipush 31) 2 48 := ⟨by decide +kernel, rfl⟩
theorem dX7_end_48 : Dc cX7_end 48 (.dup2) 1 49 := ⟨by decide +kernel, rfl⟩
theorem dX7_end_49 : Dc cX7_end 49 (.iaload) 1 50 := ⟨by decide +kernel, rfl⟩
theorem dX7_end_50 : Dc cX7_end 50 (.iconst 1) 1 51 := ⟨by decide +kernel, rfl⟩
theorem dX7_end_51 : Dc cX7_end 51 (.iadd) 1 52 := ⟨by decide +kernel, rfl⟩
theorem dX7_end_52 : Dc cX7_end 52 (.iastore) 1 53 := ⟨by decide +kernel, rfl⟩
theorem dX7_end_53 : Dc cX7_end 53 (.aload_n 0) 1 54 := ⟨by decide +kernel, rfl⟩
theorem dX7_end_54 : Dc cX7_end 54 (.getfield 7) 3 57 := ⟨by decide +kernel, rfl⟩
theorem dX7_end_57 : Dc cX7_end 57 (.bipush 31) 2 59 := ⟨by decide +kernel, rfl⟩
theorem dX7_end_59 : Dc cX7_end 59 (.iaload) 1 60 := ⟨by decide +kernel, rfl⟩
theorem dX7_end_60 : Dc cX7_end 60 (.iconst 1) 1 61 := ⟨by decide +kernel, rfl⟩
theorem dX7_end_61 : Dc cX7_end 61 (.isub) 1 62 := ⟨by decide +kernel, rfl⟩
theorem dX7_end_62 : Dc cX7_end 62 (.ireturn) 1 63 := ⟨by decide +kernel, rfl⟩
theorem dX7_dropTry_0 : Dc cX7_dropTry 0 (.aload_n 0) 1 1 := ⟨by decide +kernel, rfl⟩
theorem dX7_dropTry_1 : Dc cX7_dropTry 1 (.iload_n 1) 1 2 := ⟨by decide +kernel, rfl⟩
theorem dX7_dropTry_2 : Dc cX7_dropTry 2 (.invokevirtual 67) 3 5 := ⟨by decide +kernel, rfl⟩
theorem dX7_dropTry_5 : Db cX7_dropTry 5 (fun o => .ifCond .ne o) 8 10 := ⟨5, by decide +kernel, rfl, rfl⟩
theorem dX7_dropTry_8 : Dc cX7_dropTry 8 (.iconst (-1)) 1 9 := ⟨by decide +kernel, rfl⟩
theorem dX7_dropTry_9 : Dc cX7_dropTry 9 (.ireturn) 1 10 := ⟨by decide +kernel, rfl⟩
theorem dX7_dropTry_10 : Dc cX7_dropTry 10 (.aload_n 0) 1 11 := ⟨by decide +kernel, rfl⟩
theorem dX7_dropTry_11 : Dc cX7_dropTry 11 (.invokevirtual 53) 3 14 := ⟨by decide +kernel, rfl⟩
theorem dX7_dropTry_14 : Dc cX7_dropTry 14 (.aload_n 0) 1 15 := ⟨by decide +kernel, rfl⟩
theorem dX7_dropTry_15 : Dc cX7_dropTry 15 (.getfield 7) 3 18 := ⟨by decide +kernel, rfl⟩
theorem dX7_dropTry_18 : Dc cX7_dropTry 18 (.bipush 31) 2 20 := ⟨by decide +kernel, rfl⟩
theorem dX7_dropTry_20 : Dc cX7_dropTry 20 (.dup2) 1 21 := ⟨by decide +kernel, rfl⟩
theorem dX7_dropTry_21 : Dc cX7_dropTry 21 (.iaload) 1 22 := ⟨by decide +kernel, rfl⟩
theorem dX7_dropTry_22 : Dc cX7_dropTry 22 (.iconst 1) 1 23 := ⟨by decide +kernel, rfl⟩
theorem dX7_dropTry_23 : Dc cX7_dropTry 23 (.isub) 1 24 := ⟨by decide +kernel, rfl⟩
theorem dX7_dropTry_24 : Dc cX7_dropTry 24 (.iastore) 1 25 := ⟨by decide +kernel, rfl⟩
theorem dX7_dropTry_25 : Dc cX7_dropTry 25 (.bipush 38) 2 27 := ⟨by decide +kernel, rfl⟩
theorem dX7_dropTry_27 : Dc cX7_dropTry 27 (.bipush 25) 2 29 := ⟨by decide +kernel, rfl⟩
theorem dX7_dropTry_29 : Dc cX7_dropTry 29 (.iload_n 1) 1 30 := ⟨by decide +kernel, rfl⟩
theorem dX7_dropTry_30 : Dc cX7_dropTry 30 (.imul) 1 31 := ⟨by decide +kernel, rfl⟩
theorem dX7_dropTry_31 : Dc cX7_dropTry 31 (.iadd) 1 32 := ⟨by decide +kernel, rfl⟩
theorem dX7_dropTry_32 : Dc cX7_dropTry 32 (.istore_n 2) 1 33 := ⟨by decide +kernel, rfl⟩
theorem dX7_dropTry_33 : Dc cX7_dropTry 33 (.iload_n 2) 1 34 := ⟨by decide +kernel, rfl⟩
theorem dX7_dropTry_34 : Dc cX7_dropTry 34 (.sipush 188) 3 37 := ⟨by decide +kernel, rfl⟩
theorem dX7_dropTry_37 : Db cX7_dropTry 37 (fun o => .if_icmp .ge o) 40 61 := ⟨24, by decide +kernel, rfl, rfl⟩
theorem dX7_dropTry_40 : Dc cX7_dropTry 40 (.aload_n 0) 1 41 := ⟨by decide +kernel, rfl⟩
theorem dX7_dropTry_41 : Dc cX7_dropTry 41 (.getfield 7) 3 44 := ⟨by decide +kernel, rfl⟩
theorem dX7_dropTry_44 : Dc cX7_dropTry 44 (.iload_n 2) 1 45 := ⟨by decide +kernel, rfl⟩
theorem dX7_dropTry_45 : Dc cX7_dropTry 45 (.aload_n 0) 1 46 := ⟨by decide +kernel, rfl⟩
theorem dX7_dropTry_46 : Dc cX7_dropTry 46 (.getfield 7) 3 49 := ⟨by decide +kernel, rfl⟩
theorem dX7_dropTry_49 : Dc cX7_dropTry 49 (.iload_n 2) 1 50 := ⟨by decide +kernel, rfl⟩
theorem dX7_dropTry_50 : Dc cX7_dropTry 50 (.bipush 25) 2 52 := ⟨by decide +kernel, rfl⟩
theorem dX7_dropTry_52 : Dc cX7_dropTry 52 (.iadd) 1 53 := ⟨by decide +kernel, rfl⟩
theorem dX7_dropTry_53 : Dc cX7_dropTry 53 (.iaload) 1 54 := ⟨by decide +kernel, rfl⟩
theorem dX7_dropTry_54 : Dc cX7_dropTry 54 (.iastore) 1 55 := ⟨by decide +kernel, rfl⟩
theorem dX7_dropTry_55 : Dc cX7_dropTry 55 (.iinc 2 1) 3 58 := ⟨by decide +kernel, rfl⟩
theorem dX7_dropTry_58 : Db cX7_dropTry 58 .goto 61 33 := ⟨-25, by decide +kernel, rfl, rfl⟩
theorem dX7_dropTry_61 : Dc cX7_dropTry 61 (.aload_n 0) 1 62 := ⟨by decide +kernel, rfl⟩
theorem dX7_dropTry_62 : Dc cX7_dropTry 62 (.getfield 7) 3 65 := ⟨by decide +kernel, rfl⟩
theorem dX7_dropTry_65 : Dc cX7_dropTry 65 (.bipush 31) 2 67 := ⟨by decide +kernel, rfl⟩
theorem dX7_dropTry_67 : Dc cX7_dropTry 67 (.iaload) 1 68 := ⟨by decide +kernel, rfl⟩
theorem dX7_dropTry_68 : Dc cX7_dropTry 68 (.ireturn) 1 69 := ⟨by decide +kernel, rfl⟩
theorem dX7_newLoop_0 : Dc cX7_newLoop 0 (.sipush 213) 3 3 := ⟨by decide +kernel, rfl⟩
theorem dX7_newLoop_3 : Dc cX7_newLoop 3 (.bipush 38) 2 5 := ⟨by decide +kernel, rfl⟩
theorem dX7_newLoop_5 : Dc cX7_newLoop 5 (.aload_n 0) 1 6 := ⟨by decide +kernel, rfl⟩
theorem dX7_newLoop_6 : Dc cX7_newLoop 6 (.getfield 7) 3 9 := ⟨by decide +kernel, rfl⟩
theorem dX7_newLoop_9 : Dc cX7_newLoop 9 (.bipush 33) 2 11 := ⟨by decide +kernel, rfl⟩
theorem dX7_newLoop_11 : Dc cX7_newLoop 11 (.iaload) 1 12 := ⟨by decide +kernel, rfl⟩
theorem dX7_newLoop_12 : Dc cX7_newLoop 12 (.imul) 1 13 := ⟨by decide +kernel, rfl⟩
theorem dX7_newLoop_13 : Dc cX7_newLoop 13 (.iadd) 1 14 := ⟨by decide +kernel, rfl⟩
theorem dX7_newLoop_14 : Dc cX7_newLoop 14 (.istore 4) 2 16 := ⟨by decide +kernel, rfl⟩
theorem dX7_newLoop_16 : Dc cX7_newLoop 16 (.aload_n 0) 1 17 := ⟨by decide +kernel, rfl⟩
theorem dX7_newLoop_17 : Dc cX7_newLoop 17 (.getfield 7) 3 20 := ⟨by decide +kernel, rfl⟩
theorem dX7_newLoop_20 : Dc cX7_newLoop 20 (.iload 4) 2 22 := ⟨by decide +kernel, rfl⟩
theorem dX7_newLoop_22 : Dc cX7_newLoop 22 (.iload_n 2) 1 23 := ⟨by decide +kernel, rfl⟩
theorem dX7_newLoop_23 : Dc cX7_newLoop 23 (.iastore) 1 24 := ⟨by decide +kernel, rfl⟩
theorem dX7_newLoop_24 : Dc cX7_newLoop 24 (.aload_n 0) 1 25 := ⟨by decide +kernel, rfl⟩
theorem dX7_newLoop_25 : Dc cX7_newLoop 25 (.getfield 7) 3 28 := ⟨by decide +kernel, rfl⟩
theorem dX7_newLoop_28 : Dc cX7_newLoop 28 (.iload 4) 2 30 := ⟨by decide +kernel, rfl⟩
theorem dX7_newLoop_30 : Dc cX7_newLoop 30 (.iconst 1) 1 31 := ⟨by decide +kernel, rfl⟩
theorem dX7_newLoop_31 : Dc cX7_newLoop 31 (.iadd) 1 32 := ⟨by decide +kernel, rfl⟩
theorem dX7_newLoop_32 : Dc cX7_newLoop 32 (.iload_n 3) 1 33 := ⟨by decide +kernel, rfl⟩
theorem dX7_newLoop_33 : Dc cX7_newLoop 33 (.iastore) 1 34 := ⟨by decide +kernel, rfl⟩
theorem dX7_newLoop_34 : Dc cX7_newLoop 34 (.iconst 0) 1 35 := ⟨by decide +kernel, rfl⟩
theorem dX7_newLoop_35 : Dc cX7_newLoop 35 (.istore 5) 2 37 := ⟨by decide +kernel, rfl⟩
theorem dX7_newLoop_37 : Dc cX7_newLoop 37 (.iload 5) 2 39 := ⟨by decide +kernel, rfl⟩
theorem dX7_newLoop_39 : Dc cX7_newLoop 39 (.iload_n 2) 1 40 := ⟨by decide +kernel, rfl⟩
theorem dX7_newLoop_40 : Db cX7_newLoop 40 (fun o => .if_icmp .ge o) 43 91 := ⟨51, by decide +kernel, rfl, rfl⟩
theorem dX7_newLoop_43 : Dc cX7_newLoop 43 (.aload_n 0) 1 44 := ⟨by decide +kernel, rfl⟩
theorem dX7_newLoop_44 : Dc cX7_newLoop 44 (.getfield 7) 3 47 := ⟨by decide +kernel, rfl⟩
theorem dX7_newLoop_47 : Dc cX7_newLoop 47 (.iload 4) 2 49 := ⟨by decide +kernel, rfl⟩
theorem dX7_newLoop_49 : Dc cX7_newLoop 49 (.iconst 2) 1 50 := ⟨by decide +kernel, rfl⟩
theorem dX7_newLoop_50 : Dc cX7_newLoop 50 (.iadd) 1 51 := ⟨by decide +kernel, rfl⟩
theorem dX7_newLoop_51 : Dc cX7_newLoop 51 (.iconst 3) 1 52 := ⟨by decide +kernel, rfl⟩
theorem dX7_newLoop_52 : Dc cX7_newLoop 52 (.iload 5) 2 54 := ⟨by decide +kernel, rfl⟩
theorem dX7_newLoop_54 : Dc cX7_newLoop 54 (.imul) 1 55 := ⟨by decide +kernel, rfl⟩
theorem dX7_newLoop_55 : Dc cX7_newLoop 55 (.iadd) 1 56 := ⟨by decide +kernel, rfl⟩
theorem dX7_newLoop_56 : Dc cX7_newLoop 56 (.aload_n 0) 1 57 := ⟨by decide +kernel, rfl⟩
theorem dX7_newLoop_57 : Dc cX7_newLoop 57 (.iload_n 1) 1 58 := ⟨by decide +kernel, rfl⟩
theorem dX7_newLoop_58 : Dc cX7_newLoop 58 (.iload 5) 2 60 := ⟨by decide +kernel, rfl⟩
theorem dX7_newLoop_60 : Dc cX7_newLoop 60 (.invokevirtual 71) 3 63 := ⟨by decide +kernel, rfl⟩
theorem dX7_newLoop_63 : Dc cX7_newLoop 63 (.iastore) 1 64 := ⟨by decide +kernel, rfl⟩
theorem dX7_newLoop_64 : Dc cX7_newLoop 64 (.aload_n 0) 1 65 := ⟨by decide +kernel, rfl⟩
theorem dX7_newLoop_65 : Dc cX7_newLoop 65 (.getfield 7) 3 68 := ⟨by decide +kernel, rfl⟩
theorem dX7_newLoop_68 : Dc cX7_newLoop 68 (.iload 4) 2 70 := ⟨by decide +kernel, rfl⟩
theorem dX7_newLoop_70 : Dc cX7_newLoop 70 (.iconst 3) 1 71 := ⟨by decide +kernel, rfl⟩
theorem dX7_newLoop_71 : Dc cX7_newLoop 71 (.iadd) 1 72 := ⟨by decide +kernel, rfl⟩
theorem dX7_newLoop_72 : Dc cX7_newLoop 72 (.iconst 3) 1 73 := ⟨by decide +kernel, rfl⟩
theorem dX7_newLoop_73 : Dc cX7_newLoop 73 (.iload 5) 2 75 := ⟨by decide +kernel, rfl⟩
theorem dX7_newLoop_75 : Dc cX7_newLoop 75 (.imul) 1 76 := ⟨by decide +kernel, rfl⟩
theorem dX7_newLoop_76 : Dc cX7_newLoop 76 (.iadd) 1 77 := ⟨by decide +kernel, rfl⟩
theorem dX7_newLoop_77 : Dc cX7_newLoop 77 (.aload_n 0) 1 78 := ⟨by decide +kernel, rfl⟩
theorem dX7_newLoop_78 : Dc cX7_newLoop 78 (.iload_n 1) 1 79 := ⟨by decide +kernel, rfl⟩
theorem dX7_newLoop_79 : Dc cX7_newLoop 79 (.iload 5) 2 81 := ⟨by decide +kernel, rfl⟩
theorem dX7_newLoop_81 : Dc cX7_newLoop 81 (.invokevirtual 75) 3 84 := ⟨by decide +kernel, rfl⟩
theorem dX7_newLoop_84 : Dc cX7_newLoop 84 (.iastore) 1 85 := ⟨by decide +kernel, rfl⟩
theorem dX7_newLoop_85 : Dc cX7_newLoop 85 (.iinc 5 1) 3 88 := ⟨by decide +kernel, rfl⟩
theorem dX7_newLoop_88 : Db cX7_newLoop 88 .goto 91 37 := ⟨-51, by decide +kernel, rfl, rfl⟩
theorem dX7_newLoop_91 : Dc cX7_newLoop 91 (.aload_n 0) 1 92 := ⟨by decide +kernel, rfl⟩
theorem dX7_newLoop_92 : Dc cX7_newLoop 92 (.getfield 7) 3 95 := ⟨by decide +kernel, rfl⟩
theorem dX7_newLoop_95 : Dc cX7_newLoop 95 (.bipush 33) 2 97 := ⟨by decide +kernel, rfl⟩
theorem dX7_newLoop_97 : Dc cX7_newLoop 97 (.dup2) 1 98 := ⟨by decide +kernel, rfl⟩
theorem dX7_newLoop_98 : Dc cX7_newLoop 98 (.iaload) 1 99 := ⟨by decide +kernel, rfl⟩
theorem dX7_newLoop_99 : Dc cX7_newLoop 99 (.iconst 1) 1 100 := ⟨by decide +kernel, rfl⟩
theorem dX7_newLoop_100 : Dc cX7_newLoop 100 (.iadd) 1 101 := ⟨by decide +kernel, rfl⟩
theorem dX7_newLoop_101 : Dc cX7_newLoop 101 (.iastore) 1 102 := ⟨by decide +kernel, rfl⟩
theorem dX7_newLoop_102 : Dc cX7_newLoop 102 (.aload_n 0) 1 103 := ⟨by decide +kernel, rfl⟩
theorem dX7_newLoop_103 : Dc cX7_newLoop 103 (.getfield 7) 3 106 := ⟨by decide +kernel, rfl⟩
theorem dX7_newLoop_106 : Dc cX7_newLoop 106 (.bipush 33) 2 108 := ⟨by decide +kernel, rfl⟩
theorem dX7_newLoop_108 : Dc cX7_newLoop 108 (.iaload) 1 109 := ⟨by decide +kernel, rfl⟩
theorem dX7_newLoop_109 : Dc cX7_newLoop 109 (.iconst 1) 1 110 := ⟨by decide +kernel, rfl⟩
theorem dX7_newLoop_110 : Dc cX7_newLoop 110 (.isub) 1 111 := ⟨by decide +kernel, rfl⟩
theorem dX7_newLoop_111 : Dc cX7_newLoop 111 (.ireturn) 1 112 := ⟨by decide +kernel, rfl⟩
theorem dX7_stride_0 : Dc cX7_stride 0 (.aload_n 0) 1 1 := ⟨by decide +kernel, rfl⟩
theorem dX7_stride_1 : Dc cX7_stride 1 (.getfield 7) 3 4 := ⟨by decide +kernel, rfl⟩
theorem dX7_stride_4 : Dc cX7_stride 4 (.sipush 213) 3 7 := ⟨by decide +kernel, rfl⟩
theorem dX7_stride_7 : Dc cX7_stride 7 (.bipush 38) 2 9 := ⟨by decide +kernel, rfl⟩
theorem dX7_stride_9 : Dc cX7_stride 9 (.iload_n 1) 1 10 := ⟨by decide +kernel, rfl⟩
theorem dX7_stride_10 : Dc cX7_stride 10 (.imul) 1 11 := ⟨by decide +kernel, rfl⟩
theorem dX7_stride_11 : Dc cX7_stride 11 (.iadd) 1 12 := ⟨by decide +kernel, rfl⟩
theorem dX7_stride_12 : Dc cX7_stride 12 (.iconst 4) 1 13 := ⟨by decide +kernel, rfl⟩
theorem dX7_stride_13 : Dc cX7_stride 13 (.iadd) 1 14 := ⟨by decide +kernel, rfl⟩
theorem dX7_stride_14 : Dc cX7_stride 14 (.iconst 3) 1 15 := ⟨by decide +kernel, rfl⟩
theorem dX7_stride_15 : Dc cX7_stride 15 (.iload_n 2) 1 16 := ⟨by decide +kernel, rfl⟩
theorem dX7_stride_16 : Dc cX7_stride 16 (.imul) 1 17 := ⟨by decide +kernel, rfl⟩
theorem dX7_stride_17 : Dc cX7_stride 17 (.iadd) 1 18 := ⟨by decide +kernel, rfl⟩
theorem dX7_stride_18 : Dc cX7_stride 18 (.iload_n 3) 1 19 := ⟨by decide +kernel, rfl⟩
theorem dX7_stride_19 : Dc cX7_stride 19 (.iastore) 1 20 := ⟨by decide +kernel, rfl⟩
theorem dX7_stride_20 : Dc cX7_stride 20 (.return_) 1 21 := ⟨by decide +kernel, rfl⟩
theorem dX7_areLike_0 : Dc cX7_areLike 0 (.aload_n 0) 1 1 := ⟨by decide +kernel, rfl⟩
theorem dX7_areLike_1 : Dc cX7_areLike 1 (.iload_n 1) 1 2 := ⟨by decide +kernel, rfl⟩
theorem dX7_areLike_2 : Dc cX7_areLike 2 (.invokevirtual 60) 3 5 := ⟨by decide +kernel, rfl⟩
theorem dX7_areLike_5 : Dc cX7_areLike 5 (.aload_n 0) 1 6 := ⟨by decide +kernel, rfl⟩
theorem dX7_areLike_6 : Dc cX7_areLike 6 (.iload_n 2) 1 7 := ⟨by decide +kernel, rfl⟩
theorem dX7_areLike_7 : Dc cX7_areLike 7 (.invokevirtual 60) 3 10 := ⟨by decide +kernel, rfl⟩
theorem dX7_areLike_10 : Db cX7_areLike 10 (fun o => .if_icmp .ne o) 13 17 := ⟨7, by decide +kernel, rfl, rfl⟩
theorem dX7_areLike_13 : Dc cX7_areLike 13 (.iconst 1) 1 14 := ⟨by decide +kernel, rfl⟩
theorem dX7_areLike_14 : Db cX7_areLike 14 .goto 17 18 := ⟨4, by decide +kernel, rfl, rfl⟩
theorem dX7_areLike_17 : Dc cX7_areLike 17 (.iconst 0) 1 18 := ⟨by decide +kernel, rfl⟩
theorem dX7_areLike_18 : Dc cX7_areLike 18 (.istore_n 3) 1 19 := ⟨by decide +kernel, rfl⟩
theorem dX7_areLike_19 : Dc cX7_areLike 19 (.iconst 0) 1 20 := ⟨by decide +kernel, rfl⟩
theorem dX7_areLike_20 : Dc cX7_areLike 20 (.istore 4) 2 22 := ⟨by decide +kernel, rfl⟩
theorem dX7_areLike_22 : Dc cX7_areLike 22 (.iload 4) 2 24 := ⟨by decide +kernel, rfl⟩
theorem dX7_areLike_24 : Dc cX7_areLike 24 (.aload_n 0) 1 25 := ⟨by decide +kernel, rfl⟩
theorem dX7_areLike_25 : Dc cX7_areLike 25 (.iload_n 1) 1 26 := ⟨by decide +kernel, rfl⟩
theorem dX7_areLike_26 : Dc cX7_areLike 26 (.invokevirtual 60) 3 29 := ⟨by decide +kernel, rfl⟩
theorem dX7_areLike_29 : Db cX7_areLike 29 (fun o => .if_icmp .ge o) 32 65 := ⟨36, by decide +kernel, rfl, rfl⟩
theorem dX7_areLike_32 : Dc cX7_areLike 32 (.iload_n 3) 1 33 := ⟨by decide +kernel, rfl⟩
theorem dX7_areLike_33 : Db cX7_areLike 33 (fun o => .ifCond .eq o) 36 65 := ⟨32, by decide +kernel, rfl, rfl⟩
theorem dX7_areLike_36 : Dc cX7_areLike 36 (.aload_n 0) 1 37 := ⟨by decide +kernel, rfl⟩
theorem dX7_areLike_37 : Dc cX7_areLike 37 (.iload_n 1) 1 38 := ⟨by decide +kernel, rfl⟩
theorem dX7_areLike_38 : Dc cX7_areLike 38 (.iload 4) 2 40 := ⟨by decide +kernel, rfl⟩
theorem dX7_areLike_40 : Dc cX7_areLike 40 (.invokevirtual 71) 3 43 := ⟨by decide +kernel, rfl⟩
theorem dX7_areLike_43 : Dc cX7_areLike 43 (.aload_n 0) 1 44 := ⟨by decide +kernel, rfl⟩
theorem dX7_areLike_44 : Dc cX7_areLike 44 (.iload_n 2) 1 45 := ⟨by decide +kernel, rfl⟩
theorem dX7_areLike_45 : Dc cX7_areLike 45 (.iload 4) 2 47 := ⟨by decide +kernel, rfl⟩
theorem dX7_areLike_47 : Dc cX7_areLike 47 (.invokevirtual 71) 3 50 := ⟨by decide +kernel, rfl⟩
theorem dX7_areLike_50 : Db cX7_areLike 50 (fun o => .if_icmp .ne o) 53 57 := ⟨7, by decide +kernel, rfl, rfl⟩
theorem dX7_areLike_53 : Dc cX7_areLike 53 (.iconst 1) 1 54 := ⟨by decide +kernel, rfl⟩
theorem dX7_areLike_54 : Db cX7_areLike 54 .goto 57 58 := ⟨4, by decide +kernel, rfl, rfl⟩
theorem dX7_areLike_57 : Dc cX7_areLike 57 (.iconst 0) 1 58 := ⟨by decide +kernel, rfl⟩
theorem dX7_areLike_58 : Dc cX7_areLike 58 (.istore_n 3) 1 59 := ⟨by decide +kernel, rfl⟩
theorem dX7_areLike_59 : Dc cX7_areLike 59 (.iinc 4 1) 3 62 := ⟨by decide +kernel, rfl⟩
theorem dX7_areLike_62 : Db cX7_areLike 62 .goto 65 22 := ⟨-40, by decide +kernel, rfl, rfl⟩
theorem dX7_areLike_65 : Dc cX7_areLike 65 (.iload_n 3) 1 66 := ⟨by decide +kernel, rfl⟩
theorem dX7_areLike_66 : Dc cX7_areLike 66 (.ireturn) 1 67 := ⟨by decide +kernel, rfl⟩
theorem dX7_generalise_0 : Dc cX7_generalise 0 (.aload_n 0) 1 1 := ⟨by decide +kernel, rfl⟩
theorem dX7_generalise_1 : Dc cX7_generalise 1 (.iload_n 1) 1 2 := ⟨by decide +kernel, rfl⟩
theorem dX7_generalise_2 : Dc cX7_generalise 2 (.invokevirtual 67) 3 5 := ⟨by decide +kernel, rfl⟩
theorem dX7_generalise_5 : Db cX7_generalise 5 (fun o => .ifCond .eq o) 8 16 := ⟨11, by decide +kernel, rfl, rfl⟩
theorem dX7_generalise_8 : Dc cX7_generalise 8 (.aload_n 0) 1 9 := ⟨by decide +kernel, rfl⟩
theorem dX7_generalise_9 : Dc cX7_generalise 9 (.iload_n 2) 1 10 := ⟨by decide +kernel, rfl⟩
theorem dX7_generalise_10 : Dc cX7_generalise 10 (.invokevirtual 67) 3 13 := ⟨by decide +kernel, rfl⟩
theorem dX7_generalise_13 : Db cX7_generalise 13 (fun o => .ifCond .ne o) 16 18 := ⟨5, by decide +kernel, rfl, rfl⟩
theorem dX7_generalise_16 : Dc cX7_generalise 16 (.iconst (-1)) 1 17 := ⟨by decide +kernel, rfl⟩
theorem dX7_generalise_17 : Dc cX7_generalise 17 (.ireturn) 1 18 := ⟨by decide +kernel, rfl⟩
theorem dX7_generalise_18 : Dc cX7_generalise 18 (.iload_n 1) 1 19 := ⟨by decide +kernel, rfl⟩
theorem dX7_generalise_19 : Dc cX7_generalise 19 (.iload_n 2) 1 20 := ⟨by decide +kernel, rfl⟩
theorem dX7_generalise_20 : Db cX7_generalise 20 (fun o => .if_icmp .eq o) 23 32 := ⟨12, by decide +kernel, rfl, rfl⟩
theorem dX7_generalise_23 : Dc cX7_generalise 23 (.aload_n 0) 1 24 := ⟨by decide +kernel, rfl⟩
theorem dX7_generalise_24 : Dc cX7_generalise 24 (.iload_n 1) 1 25 := ⟨by decide +kernel, rfl⟩
theorem dX7_generalise_25 : Dc cX7_generalise 25 (.iload_n 2) 1 26 := ⟨by decide +kernel, rfl⟩
theorem dX7_generalise_26 : Dc cX7_generalise 26 (.invokevirtual 78) 3 29 := ⟨by decide +kernel, rfl⟩
theorem dX7_generalise_29 : Db cX7_generalise 29 (fun o => .ifCond .ne o) 32 35 := ⟨6, by decide +kernel, rfl, rfl⟩
theorem dX7_generalise_32 : Dc cX7_generalise 32 (.bipush (-4)) 2 34 := ⟨by decide +kernel, rfl⟩
theorem dX7_generalise_34 : Dc cX7_generalise 34 (.ireturn) 1 35 := ⟨by decide +kernel, rfl⟩
theorem dX7_generalise_35 : Dc cX7_generalise 35 (.aload_n 0) 1 36 := ⟨by decide +kernel, rfl⟩
theorem dX7_generalise_36 : Dc cX7_generalise 36 (.getfield 7) 3 39 := ⟨by decide +kernel, rfl⟩
theorem dX7_generalise_39 : Dc cX7_generalise 39 (.bipush 33) 2 41 := ⟨by decide +kernel, rfl⟩
theorem dX7_generalise_41 : Dc cX7_generalise 41 (.iaload) 1 42 := ⟨by decide +kernel, rfl⟩
theorem dX7_generalise_42 : Dc cX7_generalise 42 (.bipush 6) 2 44 := ⟨by decide +kernel, rfl⟩
theorem dX7_generalise_44 : Db cX7_generalise 44 (fun o => .if_icmp .ne o) 47 50 := ⟨6, by decide +kernel, rfl, rfl⟩
theorem dX7_generalise_47 : Dc cX7_generalise 47 (.bipush (-3)) 2 49 := ⟨by decide +kernel, rfl⟩
theorem dX7_generalise_49 : Dc cX7_generalise 49 (.ireturn) 1 50 := ⟨by decide +kernel, rfl⟩
theorem dX7_generalise_50 : Dc cX7_generalise 50 (.aload_n 0) 1 51 := ⟨by decide +kernel, rfl⟩
theorem dX7_generalise_51 : Dc cX7_generalise 51 (.invokevirtual 53) 3 54 := ⟨by decide +kernel, rfl⟩
theorem dX7_generalise_54 : Dc cX7_generalise 54 (.aload_n 0) 1 55 := ⟨by decide +kernel, rfl⟩
theorem dX7_generalise_55 : Dc cX7_generalise 55 (.iload_n 1) 1 56 := ⟨by decide +kernel, rfl⟩
theorem dX7_generalise_56 : Dc cX7_generalise 56 (.aload_n 0) 1 57 := ⟨by decide +kernel, rfl⟩
theorem dX7_generalise_57 : Dc cX7_generalise 57 (.iload_n 1) 1 58 := ⟨by decide +kernel, rfl⟩
theorem dX7_generalise_58 : Dc cX7_generalise 58 (.invokevirtual 60) 3 61 := ⟨by decide +kernel, rfl⟩
theorem dX7_generalise_61 : Dc cX7_generalise 61 (.iconst 2) 1 62 := ⟨by decide +kernel, rfl⟩
theorem dX7_generalise_62 : Dc cX7_generalise 62 (.invokevirtual 81) 3 65 := ⟨by decide +kernel, rfl⟩
theorem dX7_generalise_65 : Dc cX7_generalise 65 (.istore_n 3) 1 66 := ⟨by decide +kernel, rfl⟩
theorem dX7_generalise_66 : Dc cX7_generalise 66 (.iconst 0) 1 67 := ⟨by decide +kernel, rfl⟩
theorem dX7_generalise_67 : Dc cX7_generalise 67 (.istore 4) 2 69 := ⟨by decide +kernel, rfl⟩
theorem dX7_generalise_69 : Dc cX7_generalise 69 (.iload 4) 2 71 := ⟨by decide +kernel, rfl⟩
theorem dX7_generalise_71 : Dc cX7_generalise 71 (.aload_n 0) 1 72 := ⟨by decide +kernel, rfl⟩
theorem dX7_generalise_72 : Dc cX7_generalise 72 (.iload_n 1) 1 73 := ⟨by decide +kernel, rfl⟩
theorem dX7_generalise_73 : Dc cX7_generalise 73 (.invokevirtual 60) 3 76 := ⟨by decide +kernel, rfl⟩
theorem dX7_generalise_76 : Db cX7_generalise 76 (fun o => .if_icmp .ge o) 79 107 := ⟨31, by decide +kernel, rfl, rfl⟩
theorem dX7_generalise_79 : Dc cX7_generalise 79 (.aload_n 0) 1 80 := ⟨by decide +kernel, rfl⟩
theorem dX7_generalise_80 : Dc cX7_generalise 80 (.iload_n 3) 1 81 := ⟨by decide +kernel, rfl⟩
theorem dX7_generalise_81 : Dc cX7_generalise 81 (.iload 4) 2 83 := ⟨by decide +kernel, rfl⟩
theorem dX7_generalise_83 : Dc cX7_generalise 83 (.aload_n 0) 1 84 := ⟨by decide +kernel, rfl⟩
theorem dX7_generalise_84 : Dc cX7_generalise 84 (.iload_n 2) 1 85 := ⟨by decide +kernel, rfl⟩
theorem dX7_generalise_85 : Dc cX7_generalise 85 (.iload 4) 2 87 := ⟨by decide +kernel, rfl⟩
theorem dX7_generalise_87 : Dc cX7_generalise 87 (.invokevirtual 75) 3 90 := ⟨by decide +kernel, rfl⟩
theorem dX7_generalise_90 : Dc cX7_generalise 90 (.aload_n 0) 1 91 := ⟨by decide +kernel, rfl⟩
theorem dX7_generalise_91 : Dc cX7_generalise 91 (.iload_n 1) 1 92 := ⟨by decide +kernel, rfl⟩
theorem dX7_generalise_92 : Dc cX7_generalise 92 (.iload 4) 2 94 := ⟨by decide +kernel, rfl⟩
theorem dX7_generalise_94 : Dc cX7_generalise 94 (.invokevirtual 75) 3 97 := ⟨by decide +kernel, rfl⟩
theorem dX7_generalise_97 : Dc cX7_generalise 97 (.isub) 1 98 := ⟨by decide +kernel, rfl⟩
theorem dX7_generalise_98 : Dc cX7_generalise 98 (.invokevirtual 85) 3 101 := ⟨by decide +kernel, rfl⟩
theorem dX7_generalise_101 : Dc cX7_generalise 101 (.iinc 4 1) 3 104 := ⟨by decide +kernel, rfl⟩
theorem dX7_generalise_104 : Db cX7_generalise 104 .goto 107 69 := ⟨-35, by decide +kernel, rfl, rfl⟩
theorem dX7_generalise_107 : Dc cX7_generalise 107 (.iload_n 3) 1 108 := ⟨by decide +kernel, rfl⟩
theorem dX7_generalise_108 : Dc cX7_generalise 108 (.ireturn) 1 109 := ⟨by decide +kernel, rfl⟩
theorem dX7_canFold_0 : Dc cX7_canFold 0 (.aload_n 0) 1 1 := ⟨by decide +kernel, rfl⟩
theorem dX7_canFold_1 : Dc cX7_canFold 1 (.iload_n 1) 1 2 := ⟨by decide +kernel, rfl⟩
theorem dX7_canFold_2 : Dc cX7_canFold 2 (.invokevirtual 60) 3 5 := ⟨by decide +kernel, rfl⟩
theorem dX7_canFold_5 : Dc cX7_canFold 5 (.istore_n 3) 1 6 := ⟨by decide +kernel, rfl⟩
theorem dX7_canFold_6 : Dc cX7_canFold 6 (.iload_n 3) 1 7 := ⟨by decide +kernel, rfl⟩
theorem dX7_canFold_7 : Dc cX7_canFold 7 (.iload_n 2) 1 8 := ⟨by decide +kernel, rfl⟩
theorem dX7_canFold_8 : Dc cX7_canFold 8 (.irem) 1 9 := ⟨by decide +kernel, rfl⟩
theorem dX7_canFold_9 : Db cX7_canFold 9 (fun o => .ifCond .ne o) 12 23 := ⟨14, by decide +kernel, rfl, rfl⟩
theorem dX7_canFold_12 : Dc cX7_canFold 12 (.iload_n 3) 1 13 := ⟨by decide +kernel, rfl⟩
theorem dX7_canFold_13 : Dc cX7_canFold 13 (.iconst 2) 1 14 := ⟨by decide +kernel, rfl⟩
theorem dX7_canFold_14 : Dc cX7_canFold 14 (.iload_n 2) 1 15 := ⟨by decide +kernel, rfl⟩
theorem dX7_canFold_15 : Dc cX7_canFold 15 (.imul) 1 16 := ⟨by decide +kernel, rfl⟩
theorem dX7_canFold_16 : Db cX7_canFold 16 (fun o => .if_icmp .lt o) 19 23 := ⟨7, by decide +kernel, rfl, rfl⟩
theorem dX7_canFold_19 : Dc cX7_canFold 19 (.iconst 1) 1 20 := ⟨by decide +kernel, rfl⟩
theorem dX7_canFold_20 : Db cX7_canFold 20 .goto 23 24 := ⟨4, by decide +kernel, rfl, rfl⟩
theorem dX7_canFold_23 : Dc cX7_canFold 23 (.iconst 0) 1 24 := ⟨by decide +kernel, rfl⟩
theorem dX7_canFold_24 : Dc cX7_canFold 24 (.istore 4) 2 26 := ⟨by decide +kernel, rfl⟩
theorem dX7_canFold_26 : Dc cX7_canFold 26 (.iload_n 2) 1 27 := ⟨by decide +kernel, rfl⟩
theorem dX7_canFold_27 : Dc cX7_canFold 27 (.istore 5) 2 29 := ⟨by decide +kernel, rfl⟩
theorem dX7_canFold_29 : Dc cX7_canFold 29 (.iload 5) 2 31 := ⟨by decide +kernel, rfl⟩
theorem dX7_canFold_31 : Dc cX7_canFold 31 (.iload_n 3) 1 32 := ⟨by decide +kernel, rfl⟩
theorem dX7_canFold_32 : Db cX7_canFold 32 (fun o => .if_icmp .ge o) 35 117 := ⟨85, by decide +kernel, rfl, rfl⟩
theorem dX7_canFold_35 : Dc cX7_canFold 35 (.iload 4) 2 37 := ⟨by decide +kernel, rfl⟩
theorem dX7_canFold_37 : Db cX7_canFold 37 (fun o => .ifCond .eq o) 40 117 := ⟨80, by decide +kernel, rfl, rfl⟩
theorem dX7_canFold_40 : Dc cX7_canFold 40 (.aload_n 0) 1 41 := ⟨by decide +kernel, rfl⟩
theorem dX7_canFold_41 : Dc cX7_canFold 41 (.iload_n 1) 1 42 := ⟨by decide +kernel, rfl⟩
theorem dX7_canFold_42 : Dc cX7_canFold 42 (.iload 5) 2 44 := ⟨by decide +kernel, rfl⟩
theorem dX7_canFold_44 : Dc cX7_canFold 44 (.iload_n 2) 1 45 := ⟨by decide +kernel, rfl⟩
theorem dX7_canFold_45 : Dc cX7_canFold 45 (.irem) 1 46 := ⟨by decide +kernel, rfl⟩
theorem dX7_canFold_46 : Dc cX7_canFold 46 (.iload_n 2) 1 47 := ⟨by decide +kernel, rfl⟩
theorem dX7_canFold_47 : Dc cX7_canFold 47 (.iadd) 1 48 := ⟨by decide +kernel, rfl⟩
theorem dX7_canFold_48 : Dc cX7_canFold 48 (.invokevirtual 75) 3 51 := ⟨by decide +kernel, rfl⟩
theorem dX7_canFold_51 : Dc cX7_canFold 51 (.aload_n 0) 1 52 := ⟨by decide +kernel, rfl⟩
theorem dX7_canFold_52 : Dc cX7_canFold 52 (.iload_n 1) 1 53 := ⟨by decide +kernel, rfl⟩
theorem dX7_canFold_53 : Dc cX7_canFold 53 (.iload 5) 2 55 := ⟨by decide +kernel, rfl⟩
theorem dX7_canFold_55 : Dc cX7_canFold 55 (.iload_n 2) 1 56 := ⟨by decide +kernel, rfl⟩
theorem dX7_canFold_56 : Dc cX7_canFold 56 (.irem) 1 57 := ⟨by decide +kernel, rfl⟩
theorem dX7_canFold_57 : Dc cX7_canFold 57 (.invokevirtual 75) 3 60 := ⟨by decide +kernel, rfl⟩
theorem dX7_canFold_60 : Dc cX7_canFold 60 (.isub) 1 61 := ⟨by decide +kernel, rfl⟩
theorem dX7_canFold_61 : Dc cX7_canFold 61 (.istore 6) 2 63 := ⟨by decide +kernel, rfl⟩
theorem dX7_canFold_63 : Dc cX7_canFold 63 (.aload_n 0) 1 64 := ⟨by decide +kernel, rfl⟩
theorem dX7_canFold_64 : Dc cX7_canFold 64 (.iload_n 1) 1 65 := ⟨by decide +kernel, rfl⟩
theorem dX7_canFold_65 : Dc cX7_canFold 65 (.iload 5) 2 67 := ⟨by decide +kernel, rfl⟩
theorem dX7_canFold_67 : Dc cX7_canFold 67 (.invokevirtual 71) 3 70 := ⟨by decide +kernel, rfl⟩
theorem dX7_canFold_70 : Dc cX7_canFold 70 (.aload_n 0) 1 71 := ⟨by decide +kernel, rfl⟩
theorem dX7_canFold_71 : Dc cX7_canFold 71 (.iload_n 1) 1 72 := ⟨by decide +kernel, rfl⟩
theorem dX7_canFold_72 : Dc cX7_canFold 72 (.iload 5) 2 74 := ⟨by decide +kernel, rfl⟩
theorem dX7_canFold_74 : Dc cX7_canFold 74 (.iload_n 2) 1 75 := ⟨by decide +kernel, rfl⟩
theorem dX7_canFold_75 : Dc cX7_canFold 75 (.isub) 1 76 := ⟨by decide +kernel, rfl⟩
theorem dX7_canFold_76 : Dc cX7_canFold 76 (.invokevirtual 71) 3 79 := ⟨by decide +kernel, rfl⟩
theorem dX7_canFold_79 : Db cX7_canFold 79 (fun o => .if_icmp .ne o) 82 108 := ⟨29, by decide +kernel, rfl, rfl⟩
theorem dX7_canFold_82 : Dc cX7_canFold 82 (.aload_n 0) 1 83 := ⟨by decide +kernel, rfl⟩
theorem dX7_canFold_83 : Dc cX7_canFold 83 (.iload_n 1) 1 84 := ⟨by decide +kernel, rfl⟩
theorem dX7_canFold_84 : Dc cX7_canFold 84 (.iload 5) 2 86 := ⟨by decide +kernel, rfl⟩
theorem dX7_canFold_86 : Dc cX7_canFold 86 (.invokevirtual 75) 3 89 := ⟨by decide +kernel, rfl⟩
theorem dX7_canFold_89 : Dc cX7_canFold 89 (.aload_n 0) 1 90 := ⟨by decide +kernel, rfl⟩
theorem dX7_canFold_90 : Dc cX7_canFold 90 (.iload_n 1) 1 91 := ⟨by decide +kernel, rfl⟩
theorem dX7_canFold_91 : Dc cX7_canFold 91 (.iload 5) 2 93 := ⟨by decide +kernel, rfl⟩
theorem dX7_canFold_93 : Dc cX7_canFold 93 (.iload_n 2) 1 94 := ⟨by decide +kernel, rfl⟩
theorem dX7_canFold_94 : Dc cX7_canFold 94 (.isub) 1 95 := ⟨by decide +kernel, rfl⟩
theorem dX7_canFold_95 : Dc cX7_canFold 95 (.invokevirtual 75) 3 98 := ⟨by decide +kernel, rfl⟩
theorem dX7_canFold_98 : Dc cX7_canFold 98 (.isub) 1 99 := ⟨by decide +kernel, rfl⟩
theorem dX7_canFold_99 : Dc cX7_canFold 99 (.iload 6) 2 101 := ⟨by decide +kernel, rfl⟩
theorem dX7_canFold_101 : Db cX7_canFold 101 (fun o => .if_icmp .ne o) 104 108 := ⟨7, by decide +kernel, rfl, rfl⟩
theorem dX7_canFold_104 : Dc cX7_canFold 104 (.iconst 1) 1 105 := ⟨by decide +kernel, rfl⟩
theorem dX7_canFold_105 : Db cX7_canFold 105 .goto 108 109 := ⟨4, by decide +kernel, rfl, rfl⟩
theorem dX7_canFold_108 : Dc cX7_canFold 108 (.iconst 0) 1 109 := ⟨by decide +kernel, rfl⟩
theorem dX7_canFold_109 : Dc cX7_canFold 109 (.istore 4) 2 111 := ⟨by decide +kernel, rfl⟩
theorem dX7_canFold_111 : Dc cX7_canFold 111 (.iinc 5 1) 3 114 := ⟨by decide +kernel, rfl⟩
theorem dX7_canFold_114 : Db cX7_canFold 114 .goto 117 29 := ⟨-85, by decide +kernel, rfl, rfl⟩
theorem dX7_canFold_117 : Dc cX7_canFold 117 (.iload 4) 2 119 := ⟨by decide +kernel, rfl⟩
theorem dX7_canFold_119 : Dc cX7_canFold 119 (.ireturn) 1 120 := ⟨by decide +kernel, rfl⟩
theorem dX7_fold_0 : Dc cX7_fold 0 (.aload_n 0) 1 1 := ⟨by decide +kernel, rfl⟩
theorem dX7_fold_1 : Dc cX7_fold 1 (.iload_n 1) 1 2 := ⟨by decide +kernel, rfl⟩
theorem dX7_fold_2 : Dc cX7_fold 2 (.invokevirtual 67) 3 5 := ⟨by decide +kernel, rfl⟩
theorem dX7_fold_5 : Db cX7_fold 5 (fun o => .ifCond .ne o) 8 10 := ⟨5, by decide +kernel, rfl, rfl⟩
theorem dX7_fold_8 : Dc cX7_fold 8 (.iconst (-1)) 1 9 := ⟨by decide +kernel, rfl⟩
theorem dX7_fold_9 : Dc cX7_fold 9 (.ireturn) 1 10 := ⟨by decide +kernel, rfl⟩
theorem dX7_fold_10 : Dc cX7_fold 10 (.iconst 1) 1 11 := ⟨by decide +kernel, rfl⟩
theorem dX7_fold_11 : Dc cX7_fold 11 (.istore_n 2) 1 12 := ⟨by decide +kernel, rfl⟩
theorem dX7_fold_12 : Dc cX7_fold 12 (.iload_n 2) 1 13 := ⟨by decide +kernel, rfl⟩
theorem dX7_fold_13 : Dc cX7_fold 13 (.bipush 12) 2 15 := ⟨by decide +kernel, rfl⟩
theorem dX7_fold_15 : Db cX7_fold 15 (fun o => .if_icmp .gt o) 18 33 := ⟨18, by decide +kernel, rfl, rfl⟩
theorem dX7_fold_18 : Dc cX7_fold 18 (.aload_n 0) 1 19 := ⟨by decide +kernel, rfl⟩
theorem dX7_fold_19 : Dc cX7_fold 19 (.iload_n 1) 1 20 := ⟨by decide +kernel, rfl⟩
theorem dX7_fold_20 : Dc cX7_fold 20 (.iload_n 2) 1 21 := ⟨by decide +kernel, rfl⟩
theorem dX7_fold_21 : Dc cX7_fold 21 (.invokevirtual 89) 3 24 := ⟨by decide +kernel, rfl⟩
theorem dX7_fold_24 : Db cX7_fold 24 (fun o => .ifCond .ne o) 27 33 := ⟨9, by decide +kernel, rfl, rfl⟩
theorem dX7_fold_27 : Dc cX7_fold 27 (.iinc 2 1) 3 30 := ⟨by decide +kernel, rfl⟩
theorem dX7_fold_30 : Db cX7_fold 30 .goto 33 12 := ⟨-18, by decide +kernel, rfl, rfl⟩
theorem dX7_fold_33 : Dc cX7_fold 33 (.iload_n 2) 1 34 := ⟨by decide +kernel, rfl⟩
theorem dX7_fold_34 : Dc cX7_fold 34 (.bipush 12) 2 36 := ⟨by decide +kernel, rfl⟩
theorem dX7_fold_36 : Db cX7_fold 36 (fun o => .if_icmp .le o) 39 42 := ⟨6, by decide +kernel, rfl, rfl⟩
theorem dX7_fold_39 : Dc cX7_fold 39 (.bipush (-4)) 2 41 := ⟨by decide +kernel, rfl⟩
theorem dX7_fold_41 : Dc cX7_fold 41 (.ireturn) 1 42 := ⟨by decide +kernel, rfl⟩
theorem dX7_fold_42 : Dc cX7_fold 42 (.aload_n 0) 1 43 := ⟨by decide +kernel, rfl⟩
theorem dX7_fold_43 : Dc cX7_fold 43 (.getfield 7) 3 46 := ⟨by decide +kernel, rfl⟩
theorem dX7_fold_46 : Dc cX7_fold 46 (.bipush 33) 2 48 := ⟨by decide +kernel, rfl⟩
theorem dX7_fold_48 : Dc cX7_fold 48 (.iaload) 1 49 := ⟨by decide +kernel, rfl⟩
theorem dX7_fold_49 : Dc cX7_fold 49 (.bipush 6) 2 51 := ⟨by decide +kernel, rfl⟩
theorem dX7_fold_51 : Db cX7_fold 51 (fun o => .if_icmp .ne o) 54 57 := ⟨6, by decide +kernel, rfl, rfl⟩
theorem dX7_fold_54 : Dc cX7_fold 54 (.bipush (-3)) 2 56 := ⟨by decide +kernel, rfl⟩
theorem dX7_fold_56 : Dc cX7_fold 56 (.ireturn) 1 57 := ⟨by decide +kernel, rfl⟩
theorem dX7_fold_57 : Dc cX7_fold 57 (.aload_n 0) 1 58 := ⟨by decide +kernel, rfl⟩
theorem dX7_fold_58 : Dc cX7_fold 58 (.invokevirtual 53) 3 61 := ⟨by decide +kernel, rfl⟩
theorem dX7_fold_61 : Dc cX7_fold 61 (.aload_n 0) 1 62 := ⟨by decide +kernel, rfl⟩
theorem dX7_fold_62 : Dc cX7_fold 62 (.iload_n 1) 1 63 := ⟨by decide +kernel, rfl⟩
theorem dX7_fold_63 : Dc cX7_fold 63 (.iload_n 2) 1 64 := ⟨by decide +kernel, rfl⟩
theorem dX7_fold_64 : Dc cX7_fold 64 (.aload_n 0) 1 65 := ⟨by decide +kernel, rfl⟩
theorem dX7_fold_65 : Dc cX7_fold 65 (.iload_n 1) 1 66 := ⟨by decide +kernel, rfl⟩
theorem dX7_fold_66 : Dc cX7_fold 66 (.invokevirtual 60) 3 69 := ⟨by decide +kernel, rfl⟩
theorem dX7_fold_69 : Dc cX7_fold 69 (.iload_n 2) 1 70 := ⟨by decide +kernel, rfl⟩
theorem dX7_fold_70 : Dc cX7_fold 70 (.idiv) 1 71 := ⟨by decide +kernel, rfl⟩
theorem dX7_fold_71 : Dc cX7_fold 71 (.invokevirtual 81) 3 74 := ⟨by decide +kernel, rfl⟩
theorem dX7_fold_74 : Dc cX7_fold 74 (.istore_n 3) 1 75 := ⟨by decide +kernel, rfl⟩
theorem dX7_fold_75 : Dc cX7_fold 75 (.iconst 0) 1 76 := ⟨by decide +kernel, rfl⟩
theorem dX7_fold_76 : Dc cX7_fold 76 (.istore 4) 2 78 := ⟨by decide +kernel, rfl⟩
theorem dX7_fold_78 : Dc cX7_fold 78 (.iload 4) 2 80 := ⟨by decide +kernel, rfl⟩
theorem dX7_fold_80 : Dc cX7_fold 80 (.iload_n 2) 1 81 := ⟨by decide +kernel, rfl⟩
theorem dX7_fold_81 : Db cX7_fold 81 (fun o => .if_icmp .ge o) 84 114 := ⟨33, by decide +kernel, rfl, rfl⟩
theorem dX7_fold_84 : Dc cX7_fold 84 (.aload_n 0) 1 85 := ⟨by decide +kernel, rfl⟩
theorem dX7_fold_85 : Dc cX7_fold 85 (.iload_n 3) 1 86 := ⟨by decide +kernel, rfl⟩
theorem dX7_fold_86 : Dc cX7_fold 86 (.iload 4) 2 88 := ⟨by decide +kernel, rfl⟩
theorem dX7_fold_88 : Dc cX7_fold 88 (.aload_n 0) 1 89 := ⟨by decide +kernel, rfl⟩
theorem dX7_fold_89 : Dc cX7_fold 89 (.iload_n 1) 1 90 := ⟨by decide +kernel, rfl⟩
theorem dX7_fold_90 : Dc cX7_fold 90 (.iload 4) 2 92 := ⟨by decide +kernel, rfl⟩
theorem dX7_fold_92 : Dc cX7_fold 92 (.iload_n 2) 1 93 := ⟨by decide +kernel, rfl⟩
theorem dX7_fold_93 : Dc cX7_fold 93 (.iadd) 1 94 := ⟨by decide +kernel, rfl⟩
theorem dX7_fold_94 : Dc cX7_fold 94 (.invokevirtual 75) 3 97 := ⟨by decide +kernel, rfl⟩
theorem dX7_fold_97 : Dc cX7_fold 97 (.aload_n 0) 1 98 := ⟨by decide +kernel, rfl⟩
theorem dX7_fold_98 : Dc cX7_fold 98 (.iload_n 1) 1 99 := ⟨by decide +kernel, rfl⟩
theorem dX7_fold_99 : Dc cX7_fold 99 (.iload 4) 2 101 := ⟨by decide +kernel, rfl⟩
theorem dX7_fold_101 : Dc cX7_fold 101 (.invokevirtual 75) 3 104 := ⟨by decide +kernel, rfl⟩
theorem dX7_fold_104 : Dc cX7_fold 104 (.isub) 1 105 := ⟨by decide +kernel, rfl⟩
theorem dX7_fold_105 : Dc cX7_fold 105 (.invokevirtual 85) 3 108 := ⟨by decide +kernel, rfl⟩
theorem dX7_fold_108 : Dc cX7_fold 108 (.iinc 4 1) 3 111 := ⟨by decide +kernel, rfl⟩
theorem dX7_fold_111 : Db cX7_fold 111 .goto 114 78 := ⟨-33, by decide +kernel, rfl, rfl⟩
theorem dX7_fold_114 : Dc cX7_fold 114 (.iload_n 3) 1 115 := ⟨by decide +kernel, rfl⟩
theorem dX7_fold_115 : Dc cX7_fold 115 (.ireturn) 1 116 := ⟨by decide +kernel, rfl⟩
theorem dX7_setTurns_0 : Dc cX7_setTurns 0 (.aload_n 0) 1 1 := ⟨by decide +kernel, rfl⟩
theorem dX7_setTurns_1 : Dc cX7_setTurns 1 (.iload_n 1) 1 2 := ⟨by decide +kernel, rfl⟩
theorem dX7_setTurns_2 : Dc cX7_setTurns 2 (.invokevirtual 92) 3 5 := ⟨by decide +kernel, rfl⟩
theorem dX7_setTurns_5 : Db cX7_setTurns 5 (fun o => .ifCond .ne o) 8 10 := ⟨5, by decide +kernel, rfl, rfl⟩
theorem dX7_setTurns_8 : Dc cX7_setTurns 8 (.iconst (-1)) 1 9 := ⟨by decide +kernel, rfl⟩
theorem dX7_setTurns_9 : Dc cX7_setTurns 9 (.ireturn) 1 10 := ⟨by decide +kernel, rfl⟩
theorem dX7_setTurns_10 : Dc cX7_setTurns 10 (.iload_n 2) 1 11 := ⟨by decide +kernel, rfl⟩
theorem dX7_setTurns_11 : Dc cX7_setTurns 11 (.iconst 1) 1 12 := ⟨by decide +kernel, rfl⟩
theorem dX7_setTurns_12 : Dc cX7_setTurns 12 (.bipush 99) 2 14 := ⟨by decide +kernel, rfl⟩
theorem dX7_setTurns_14 : Dc cX7_setTurns 14 (.invokestatic 37) 3 17 := ⟨by decide +kernel, rfl⟩
theorem dX7_setTurns_17 : Db cX7_setTurns 17 (fun o => .ifCond .ne o) 20 23 := ⟨6, by decide +kernel, rfl, rfl⟩
theorem dX7_setTurns_20 : Dc cX7_setTurns 20 (.bipush (-2)) 2 22 := ⟨by decide +kernel, rfl⟩
theorem dX7_setTurns_22 : Dc cX7_setTurns 22 (.ireturn) 1 23 := ⟨by decide +kernel, rfl⟩
theorem dX7_setTurns_23 : Dc cX7_setTurns 23 (.aload_n 0) 1 24 := ⟨by decide +kernel, rfl⟩
theorem dX7_setTurns_24 : Dc cX7_setTurns 24 (.getfield 7) 3 27 := ⟨by decide +kernel, rfl⟩
theorem dX7_setTurns_27 : Dc cX7_setTurns 27 (.sipush 213) 3 30 := ⟨by decide +kernel, rfl⟩
theorem dX7_setTurns_30 : Dc cX7_setTurns 30 (.bipush 38) 2 32 := ⟨by decide +kernel, rfl⟩
theorem dX7_setTurns_32 : Dc cX7_setTurns 32 (.iload_n 1) 1 33 := ⟨by decide +kernel, rfl⟩
theorem dX7_setTurns_33 : Dc cX7_setTurns 33 (.imul) 1 34 := ⟨by decide +kernel, rfl⟩
theorem dX7_setTurns_34 : Dc cX7_setTurns 34 (.iadd) 1 35 := ⟨by decide +kernel, rfl⟩
theorem dX7_setTurns_35 : Dc cX7_setTurns 35 (.iconst 1) 1 36 := ⟨by decide +kernel, rfl⟩
theorem dX7_setTurns_36 : Dc cX7_setTurns 36 (.iadd) 1 37 := ⟨by decide +kernel, rfl⟩
theorem dX7_setTurns_37 : Dc cX7_setTurns 37 (.iaload) 1 38 := ⟨by decide +kernel, rfl⟩
theorem dX7_setTurns_38 : Dc cX7_setTurns 38 (.istore_n 3) 1 39 := ⟨by decide +kernel, rfl⟩
theorem dX7_setTurns_39 : Dc cX7_setTurns 39 (.iload_n 3) 1 40 := ⟨by decide +kernel, rfl⟩
theorem dX7_setTurns_40 : Dc cX7_setTurns 40 (.iload_n 2) 1 41 := ⟨by decide +kernel, rfl⟩
theorem dX7_setTurns_41 : Db cX7_setTurns 41 (fun o => .if_icmp .ne o) 44 47 := ⟨6, by decide +kernel, rfl, rfl⟩
theorem dX7_setTurns_44 : Dc cX7_setTurns 44 (.bipush (-5)) 2 46 := ⟨by decide +kernel, rfl⟩
theorem dX7_setTurns_46 : Dc cX7_setTurns 46 (.ireturn) 1 47 := ⟨by decide +kernel, rfl⟩
theorem dX7_setTurns_47 : Dc cX7_setTurns 47 (.aload_n 0) 1 48 := ⟨by decide +kernel, rfl⟩
theorem dX7_setTurns_48 : Dc cX7_setTurns 48 (.invokevirtual 53) 3 51 := ⟨by decide +kernel, rfl⟩
theorem dX7_setTurns_51 : Dc cX7_setTurns 51 (.aload_n 0) 1 52 := ⟨by decide +kernel, rfl⟩
theorem dX7_setTurns_52 : Dc cX7_setTurns 52 (.getfield 7) 3 55 := ⟨by decide +kernel, rfl⟩
theorem dX7_setTurns_55 : Dc cX7_setTurns 55 (.sipush 213) 3 58 := ⟨by decide +kernel, rfl⟩
theorem dX7_setTurns_58 : Dc cX7_setTurns 58 (.bipush 38) 2 60 := ⟨by decide +kernel, rfl⟩
theorem dX7_setTurns_60 : Dc cX7_setTurns 60 (.iload_n 1) 1 61 := ⟨by decide +kernel, rfl⟩
theorem dX7_setTurns_61 : Dc cX7_setTurns 61 (.imul) 1 62 := ⟨by decide +kernel, rfl⟩
theorem dX7_setTurns_62 : Dc cX7_setTurns 62 (.iadd) 1 63 := ⟨by decide +kernel, rfl⟩
theorem dX7_setTurns_63 : Dc cX7_setTurns 63 (.iconst 1) 1 64 := ⟨by decide +kernel, rfl⟩
theorem dX7_setTurns_64 : Dc cX7_setTurns 64 (.iadd) 1 65 := ⟨by decide +kernel, rfl⟩
theorem dX7_setTurns_65 : Dc cX7_setTurns 65 (.iload_n 2) 1 66 := ⟨by decide +kernel, rfl⟩
theorem dX7_setTurns_66 : Dc cX7_setTurns 66 (.iastore) 1 67 := ⟨by decide +kernel, rfl⟩
theorem dX7_setTurns_67 : Dc cX7_setTurns 67 (.iload_n 3) 1 68 := ⟨by decide +kernel, rfl⟩
theorem dX7_setTurns_68 : Dc cX7_setTurns 68 (.ireturn) 1 69 := ⟨by decide +kernel, rfl⟩
theorem dX7_dropLoop_0 : Dc cX7_dropLoop 0 (.aload_n 0) 1 1 := ⟨by decide +kernel, rfl⟩
theorem dX7_dropLoop_1 : Dc cX7_dropLoop 1 (.iload_n 1) 1 2 := ⟨by decide +kernel, rfl⟩
theorem dX7_dropLoop_2 : Dc cX7_dropLoop 2 (.invokevirtual 92) 3 5 := ⟨by decide +kernel, rfl⟩
theorem dX7_dropLoop_5 : Db cX7_dropLoop 5 (fun o => .ifCond .ne o) 8 10 := ⟨5, by decide +kernel, rfl, rfl⟩
theorem dX7_dropLoop_8 : Dc cX7_dropLoop 8 (.iconst (-1)) 1 9 := ⟨by decide +kernel, rfl⟩
theorem dX7_dropLoop_9 : Dc cX7_dropLoop 9 (.ireturn) 1 10 := ⟨by decide +kernel, rfl⟩
theorem dX7_dropLoop_10 : Dc cX7_dropLoop 10 (.aload_n 0) 1 11 := ⟨by decide +kernel, rfl⟩
theorem dX7_dropLoop_11 : Dc cX7_dropLoop 11 (.invokevirtual 53) 3 14 := ⟨by decide +kernel, rfl⟩
theorem dX7_dropLoop_14 : Dc cX7_dropLoop 14 (.aload_n 0) 1 15 := ⟨by decide +kernel, rfl⟩
theorem dX7_dropLoop_15 : Dc cX7_dropLoop 15 (.getfield 7) 3 18 := ⟨by decide +kernel, rfl⟩
theorem dX7_dropLoop_18 : Dc cX7_dropLoop 18 (.bipush 33) 2 20 := ⟨by decide +kernel, rfl⟩
theorem dX7_dropLoop_20 : Dc cX7_dropLoop 20 (.dup2) 1 21 := ⟨by decide +kernel, rfl⟩
theorem dX7_dropLoop_21 : Dc cX7_dropLoop 21 (.iaload) 1 22 := ⟨by decide +kernel, rfl⟩
theorem dX7_dropLoop_22 : Dc cX7_dropLoop 22 (.iconst 1) 1 23 := ⟨by decide +kernel, rfl⟩
theorem dX7_dropLoop_23 : Dc cX7_dropLoop 23 (.isub) 1 24 := ⟨by decide +kernel, rfl⟩
theorem dX7_dropLoop_24 : Dc cX7_dropLoop 24 (.iastore) 1 25 := ⟨by decide +kernel, rfl⟩
theorem dX7_dropLoop_25 : Dc cX7_dropLoop 25 (.sipush 213) 3 28 := ⟨by decide +kernel, rfl⟩
theorem dX7_dropLoop_28 : Dc cX7_dropLoop 28 (.bipush 38) 2 30 := ⟨by decide +kernel, rfl⟩
theorem dX7_dropLoop_30 : Dc cX7_dropLoop 30 (.iload_n 1) 1 31 := ⟨by decide +kernel, rfl⟩
theorem dX7_dropLoop_31 : Dc cX7_dropLoop 31 (.imul) 1 32 := ⟨by decide +kernel, rfl⟩
theorem dX7_dropLoop_32 : Dc cX7_dropLoop 32 (.iadd) 1 33 := ⟨by decide +kernel, rfl⟩
theorem dX7_dropLoop_33 : Dc cX7_dropLoop 33 (.istore_n 2) 1 34 := ⟨by decide +kernel, rfl⟩
theorem dX7_dropLoop_34 : Dc cX7_dropLoop 34 (.iload_n 2) 1 35 := ⟨by decide +kernel, rfl⟩
theorem dX7_dropLoop_35 : Dc cX7_dropLoop 35 (.sipush 403) 3 38 := ⟨by decide +kernel, rfl⟩
theorem dX7_dropLoop_38 : Db cX7_dropLoop 38 (fun o => .if_icmp .ge o) 41 62 := ⟨24, by decide +kernel, rfl, rfl⟩
theorem dX7_dropLoop_41 : Dc cX7_dropLoop 41 (.aload_n 0) 1 42 := ⟨by decide +kernel, rfl⟩
theorem dX7_dropLoop_42 : Dc cX7_dropLoop 42 (.getfield 7) 3 45 := ⟨by decide +kernel, rfl⟩
theorem dX7_dropLoop_45 : Dc cX7_dropLoop 45 (.iload_n 2) 1 46 := ⟨by decide +kernel, rfl⟩
theorem dX7_dropLoop_46 : Dc cX7_dropLoop 46 (.aload_n 0) 1 47 := ⟨by decide +kernel, rfl⟩
theorem dX7_dropLoop_47 : Dc cX7_dropLoop 47 (.getfield 7) 3 50 := ⟨by decide +kernel, rfl⟩
theorem dX7_dropLoop_50 : Dc cX7_dropLoop 50 (.iload_n 2) 1 51 := ⟨by decide +kernel, rfl⟩
theorem dX7_dropLoop_51 : Dc cX7_dropLoop 51 (.bipush 38) 2 53 := ⟨by decide +kernel, rfl⟩
theorem dX7_dropLoop_53 : Dc cX7_dropLoop 53 (.iadd) 1 54 := ⟨by decide +kernel, rfl⟩
theorem dX7_dropLoop_54 : Dc cX7_dropLoop 54 (.iaload) 1 55 := ⟨by decide +kernel, rfl⟩
theorem dX7_dropLoop_55 : Dc cX7_dropLoop 55 (.iastore) 1 56 := ⟨by decide +kernel, rfl⟩
theorem dX7_dropLoop_56 : Dc cX7_dropLoop 56 (.iinc 2 1) 3 59 := ⟨by decide +kernel, rfl⟩
theorem dX7_dropLoop_59 : Db cX7_dropLoop 59 .goto 62 34 := ⟨-25, by decide +kernel, rfl, rfl⟩
theorem dX7_dropLoop_62 : Dc cX7_dropLoop 62 (.aload_n 0) 1 63 := ⟨by decide +kernel, rfl⟩
theorem dX7_dropLoop_63 : Dc cX7_dropLoop 63 (.getfield 7) 3 66 := ⟨by decide +kernel, rfl⟩
theorem dX7_dropLoop_66 : Dc cX7_dropLoop 66 (.bipush 33) 2 68 := ⟨by decide +kernel, rfl⟩
theorem dX7_dropLoop_68 : Dc cX7_dropLoop 68 (.iaload) 1 69 := ⟨by decide +kernel, rfl⟩
theorem dX7_dropLoop_69 : Dc cX7_dropLoop 69 (.ireturn) 1 70 := ⟨by decide +kernel, rfl⟩
theorem dX7_takeBody_0 : Dc cX7_takeBody 0 (.sipush 213) 3 3 := ⟨by decide +kernel, rfl⟩
theorem dX7_takeBody_3 : Dc cX7_takeBody 3 (.bipush 38) 2 5 := ⟨by decide +kernel, rfl⟩
theorem dX7_takeBody_5 : Dc cX7_takeBody 5 (.iload_n 1) 1 6 := ⟨by decide +kernel, rfl⟩
theorem dX7_takeBody_6 : Dc cX7_takeBody 6 (.imul) 1 7 := ⟨by decide +kernel, rfl⟩
theorem dX7_takeBody_7 : Dc cX7_takeBody 7 (.iadd) 1 8 := ⟨by decide +kernel, rfl⟩
theorem dX7_takeBody_8 : Dc cX7_takeBody 8 (.istore_n 2) 1 9 := ⟨by decide +kernel, rfl⟩
theorem dX7_takeBody_9 : Dc cX7_takeBody 9 (.aload_n 0) 1 10 := ⟨by decide +kernel, rfl⟩
theorem dX7_takeBody_10 : Dc cX7_takeBody 10 (.aload_n 0) 1 11 := ⟨by decide +kernel, rfl⟩
theorem dX7_takeBody_11 : Dc cX7_takeBody 11 (.getfield 7) 3 14 := ⟨by decide +kernel, rfl⟩
theorem dX7_takeBody_14 : Dc cX7_takeBody 14 (.iload_n 2) 1 15 := ⟨by decide +kernel, rfl⟩
theorem dX7_takeBody_15 : Dc cX7_takeBody 15 (.iaload) 1 16 := ⟨by decide +kernel, rfl⟩
theorem dX7_takeBody_16 : Dc cX7_takeBody 16 (.putfield 95) 3 19 := ⟨by decide +kernel, rfl⟩
theorem dX7_takeBody_19 : Dc cX7_takeBody 19 (.iconst 0) 1 20 := ⟨by decide +kernel, rfl⟩
theorem dX7_takeBody_20 : Dc cX7_takeBody 20 (.istore_n 3) 1 21 := ⟨by decide +kernel, rfl⟩
theorem dX7_takeBody_21 : Dc cX7_takeBody 21 (.iload_n 3) 1 22 := ⟨by decide +kernel, rfl⟩
theorem dX7_takeBody_22 : Dc cX7_takeBody 22 (.aload_n 0) 1 23 := ⟨by decide +kernel, rfl⟩
theorem dX7_takeBody_23 : Dc cX7_takeBody 23 (.getfield 95) 3 26 := ⟨by decide +kernel, rfl⟩
theorem dX7_takeBody_26 : Db cX7_takeBody 26 (fun o => .if_icmp .ge o) 29 89 := ⟨63, by decide +kernel, rfl, rfl⟩
theorem dX7_takeBody_29 : Dc cX7_takeBody 29 (.aload_n 0) 1 30 := ⟨by decide +kernel, rfl⟩
theorem dX7_takeBody_30 : Dc cX7_takeBody 30 (.getfield 25) 3 33 := ⟨by decide +kernel, rfl⟩
theorem dX7_takeBody_33 : Dc cX7_takeBody 33 (.iload_n 3) 1 34 := ⟨by decide +kernel, rfl⟩
theorem dX7_takeBody_34 : Dc cX7_takeBody 34 (.aload_n 0) 1 35 := ⟨by decide +kernel, rfl⟩
theorem dX7_takeBody_35 : Dc cX7_takeBody 35 (.getfield 7) 3 38 := ⟨by decide +kernel, rfl⟩
theorem dX7_takeBody_38 : Dc cX7_takeBody 38 (.iload_n 2) 1 39 := ⟨by decide +kernel, rfl⟩
theorem dX7_takeBody_39 : Dc cX7_takeBody 39 (.iconst 2) 1 40 := ⟨by decide +kernel, rfl⟩
theorem dX7_takeBody_40 : Dc cX7_takeBody 40 (.iadd) 1 41 := ⟨by decide +kernel, rfl⟩
theorem dX7_takeBody_41 : Dc cX7_takeBody 41 (.iconst 3) 1 42 := ⟨by decide +kernel, rfl⟩
theorem dX7_takeBody_42 : Dc cX7_takeBody 42 (.iload_n 3) 1 43 := ⟨by decide +kernel, rfl⟩
theorem dX7_takeBody_43 : Dc cX7_takeBody 43 (.imul) 1 44 := ⟨by decide +kernel, rfl⟩
theorem dX7_takeBody_44 : Dc cX7_takeBody 44 (.iadd) 1 45 := ⟨by decide +kernel, rfl⟩
theorem dX7_takeBody_45 : Dc cX7_takeBody 45 (.iaload) 1 46 := ⟨by decide +kernel, rfl⟩
theorem dX7_takeBody_46 : Dc cX7_takeBody 46 (.iastore) 1 47 := ⟨by decide +kernel, rfl⟩
theorem dX7_takeBody_47 : Dc cX7_takeBody 47 (.aload_n 0) 1 48 := ⟨by decide +kernel, rfl⟩
theorem dX7_takeBody_48 : Dc cX7_takeBody 48 (.getfield 28) 3 51 := ⟨by decide +kernel, rfl⟩
theorem dX7_takeBody_51 : Dc cX7_takeBody 51 (.iload_n 3) 1 52 := ⟨by decide +kernel, rfl⟩
theorem dX7_takeBody_52 : Dc cX7_takeBody 52 (.aload_n 0) 1 53 := ⟨by decide +kernel, rfl⟩
theorem dX7_takeBody_53 : Dc cX7_takeBody 53 (.getfield 7) 3 56 := ⟨by decide +kernel, rfl⟩
theorem dX7_takeBody_56 : Dc cX7_takeBody 56 (.iload_n 2) 1 57 := ⟨by decide +kernel, rfl⟩
theorem dX7_takeBody_57 : Dc cX7_takeBody 57 (.iconst 3) 1 58 := ⟨by decide +kernel, rfl⟩
theorem dX7_takeBody_58 : Dc cX7_takeBody 58 (.iadd) 1 59 := ⟨by decide +kernel, rfl⟩
theorem dX7_takeBody_59 : Dc cX7_takeBody 59 (.iconst 3) 1 60 := ⟨by decide +kernel, rfl⟩
theorem dX7_takeBody_60 : Dc cX7_takeBody 60 (.iload_n 3) 1 61 := ⟨by decide +kernel, rfl⟩
theorem dX7_takeBody_61 : Dc cX7_takeBody 61 (.imul) 1 62 := ⟨by decide +kernel, rfl⟩
theorem dX7_takeBody_62 : Dc cX7_takeBody 62 (.iadd) 1 63 := ⟨by decide +kernel, rfl⟩
theorem dX7_takeBody_63 : Dc cX7_takeBody 63 (.iaload) 1 64 := ⟨by decide +kernel, rfl⟩
theorem dX7_takeBody_64 : Dc cX7_takeBody 64 (.iastore) 1 65 := ⟨by decide +kernel, rfl⟩
theorem dX7_takeBody_65 : Dc cX7_takeBody 65 (.aload_n 0) 1 66 := ⟨by decide +kernel, rfl⟩
theorem dX7_takeBody_66 : Dc cX7_takeBody 66 (.getfield 31) 3 69 := ⟨by decide +kernel, rfl⟩
theorem dX7_takeBody_69 : Dc cX7_takeBody 69 (.iload_n 3) 1 70 := ⟨by decide +kernel, rfl⟩
theorem dX7_takeBody_70 : Dc cX7_takeBody 70 (.aload_n 0) 1 71 := ⟨by decide +kernel, rfl⟩
theorem dX7_takeBody_71 : Dc cX7_takeBody 71 (.getfield 7) 3 74 := ⟨by decide +kernel, rfl⟩
theorem dX7_takeBody_74 : Dc cX7_takeBody 74 (.iload_n 2) 1 75 := ⟨by decide +kernel, rfl⟩
theorem dX7_takeBody_75 : Dc cX7_takeBody 75 (.iconst 4) 1 76 := ⟨by decide +kernel, rfl⟩
theorem dX7_takeBody_76 : Dc cX7_takeBody 76 (.iadd) 1 77 := ⟨by decide +kernel, rfl⟩
theorem dX7_takeBody_77 : Dc cX7_takeBody 77 (.iconst 3) 1 78 := ⟨by decide +kernel, rfl⟩
theorem dX7_takeBody_78 : Dc cX7_takeBody 78 (.iload_n 3) 1 79 := ⟨by decide +kernel, rfl⟩
theorem dX7_takeBody_79 : Dc cX7_takeBody 79 (.imul) 1 80 := ⟨by decide +kernel, rfl⟩
theorem dX7_takeBody_80 : Dc cX7_takeBody 80 (.iadd) 1 81 := ⟨by decide +kernel, rfl⟩
theorem dX7_takeBody_81 : Dc cX7_takeBody 81 (.iaload) 1 82 := ⟨by decide +kernel, rfl⟩
theorem dX7_takeBody_82 : Dc cX7_takeBody 82 (.iastore) 1 83 := ⟨by decide +kernel, rfl⟩
theorem dX7_takeBody_83 : Dc cX7_takeBody 83 (.iinc 3 1) 3 86 := ⟨by decide +kernel, rfl⟩
theorem dX7_takeBody_86 : Db cX7_takeBody 86 .goto 89 21 := ⟨-65, by decide +kernel, rfl, rfl⟩
theorem dX7_takeBody_89 : Dc cX7_takeBody 89 (.return_) 1 90 := ⟨by decide +kernel, rfl⟩
theorem dX7_turn_0 : Dc cX7_turn 0 (.iconst 0) 1 1 := ⟨by decide +kernel, rfl⟩
theorem dX7_turn_1 : Dc cX7_turn 1 (.istore_n 2) 1 2 := ⟨by decide +kernel, rfl⟩
theorem dX7_turn_2 : Dc cX7_turn 2 (.iconst 0) 1 3 := ⟨by decide +kernel, rfl⟩
theorem dX7_turn_3 : Dc cX7_turn 3 (.istore_n 3) 1 4 := ⟨by decide +kernel, rfl⟩
theorem dX7_turn_4 : Dc cX7_turn 4 (.iload_n 3) 1 5 := ⟨by decide +kernel, rfl⟩
theorem dX7_turn_5 : Dc cX7_turn 5 (.aload_n 0) 1 6 := ⟨by decide +kernel, rfl⟩
theorem dX7_turn_6 : Dc cX7_turn 6 (.getfield 95) 3 9 := ⟨by decide +kernel, rfl⟩
theorem dX7_turn_9 : Db cX7_turn 9 (fun o => .if_icmp .ge o) 12 82 := ⟨73, by decide +kernel, rfl, rfl⟩
theorem dX7_turn_12 : Dc cX7_turn 12 (.iload_n 2) 1 13 := ⟨by decide +kernel, rfl⟩
theorem dX7_turn_13 : Db cX7_turn 13 (fun o => .ifCond .ne o) 16 82 := ⟨69, by decide +kernel, rfl, rfl⟩
theorem dX7_turn_16 : Dc cX7_turn 16 (.aload_n 0) 1 17 := ⟨by decide +kernel, rfl⟩
theorem dX7_turn_17 : Dc cX7_turn 17 (.getfield 28) 3 20 := ⟨by decide +kernel, rfl⟩
theorem dX7_turn_20 : Dc cX7_turn 20 (.iload_n 3) 1 21 := ⟨by decide +kernel, rfl⟩
theorem dX7_turn_21 : Dc cX7_turn 21 (.iaload) 1 22 := ⟨by decide +kernel, rfl⟩
theorem dX7_turn_22 : Dc cX7_turn 22 (.iload_n 1) 1 23 := ⟨by decide +kernel, rfl⟩
theorem dX7_turn_23 : Dc cX7_turn 23 (.aload_n 0) 1 24 := ⟨by decide +kernel, rfl⟩
theorem dX7_turn_24 : Dc cX7_turn 24 (.getfield 31) 3 27 := ⟨by decide +kernel, rfl⟩
theorem dX7_turn_27 : Dc cX7_turn 27 (.iload_n 3) 1 28 := ⟨by decide +kernel, rfl⟩
theorem dX7_turn_28 : Dc cX7_turn 28 (.iaload) 1 29 := ⟨by decide +kernel, rfl⟩
theorem dX7_turn_29 : Dc cX7_turn 29 (.imul) 1 30 := ⟨by decide +kernel, rfl⟩
theorem dX7_turn_30 : Dc cX7_turn 30 (.iadd) 1 31 := ⟨by decide +kernel, rfl⟩
theorem dX7_turn_31 : Dc cX7_turn 31 (.istore 4) 2 33 := ⟨by decide +kernel, rfl⟩
theorem dX7_turn_33 : Dc cX7_turn 33 (.iload 4) 2 35 := ⟨by decide +kernel, rfl⟩
theorem dX7_turn_35 : Dc cX7_turn 35 (.iconst 0) 1 36 := ⟨by decide +kernel, rfl⟩
theorem dX7_turn_36 : Dc cX7_turn 36 (.aload_n 0) 1 37 := ⟨by decide +kernel, rfl⟩
theorem dX7_turn_37 : Dc cX7_turn 37 (.getfield 25) 3 40 := ⟨by decide +kernel, rfl⟩
theorem dX7_turn_40 : Dc cX7_turn 40 (.iload_n 3) 1 41 := ⟨by decide +kernel, rfl⟩
theorem dX7_turn_41 : Dc cX7_turn 41 (.iaload) 1 42 := ⟨by decide +kernel, rfl⟩
theorem dX7_turn_42 : Dc cX7_turn 42 (.invokestatic 56) 3 45 := ⟨by decide +kernel, rfl⟩
theorem dX7_turn_45 : Dc cX7_turn 45 (.invokestatic 37) 3 48 := ⟨by decide +kernel, rfl⟩
theorem dX7_turn_48 : Db cX7_turn 48 (fun o => .ifCond .ne o) 51 55 := ⟨7, by decide +kernel, rfl, rfl⟩
theorem dX7_turn_51 : Dc cX7_turn 51 (.iconst 1) 1 52 := ⟨by decide +kernel, rfl⟩
theorem dX7_turn_52 : Db cX7_turn 52 .goto 55 75 := ⟨23, by decide +kernel, rfl, rfl⟩
theorem dX7_turn_55 : Dc cX7_turn 55 (.aload_n 0) 1 56 := ⟨by decide +kernel, rfl⟩
theorem dX7_turn_56 : Dc cX7_turn 56 (.aload_n 0) 1 57 := ⟨by decide +kernel, rfl⟩
theorem dX7_turn_57 : Dc cX7_turn 57 (.getfield 25) 3 60 := ⟨by decide +kernel, rfl⟩
theorem dX7_turn_60 : Dc cX7_turn 60 (.iload_n 3) 1 61 := ⟨by decide +kernel, rfl⟩
theorem dX7_turn_61 : Dc cX7_turn 61 (.iaload) 1 62 := ⟨by decide +kernel, rfl⟩
theorem dX7_turn_62 : Dc cX7_turn 62 (.iload 4) 2 64 := ⟨by decide +kernel, rfl⟩
theorem dX7_turn_64 : Dc cX7_turn 64 (.invokevirtual 63) 3 67 := ⟨by decide +kernel, rfl⟩
theorem dX7_turn_67 : Db cX7_turn 67 (fun o => .ifCond .eq o) 70 74 := ⟨7, by decide +kernel, rfl, rfl⟩
theorem dX7_turn_70 : Dc cX7_turn 70 (.iconst 0) 1 71 := ⟨by decide +kernel, rfl⟩
theorem dX7_turn_71 : Db cX7_turn 71 .goto 74 75 := ⟨4, by decide +kernel, rfl, rfl⟩
theorem dX7_turn_74 : Dc cX7_turn 74 (.iconst 2) 1 75 := ⟨by decide +kernel, rfl⟩
theorem dX7_turn_75 : Dc cX7_turn 75 (.istore_n 2) 1 76 := ⟨by decide +kernel, rfl⟩
theorem dX7_turn_76 : Dc cX7_turn 76 (.iinc 3 1) 3 79 := ⟨by decide +kernel, rfl⟩
theorem dX7_turn_79 : Db cX7_turn 79 .goto 82 4 := ⟨-75, by decide +kernel, rfl, rfl⟩
theorem dX7_turn_82 : Dc cX7_turn 82 (.iload_n 2) 1 83 := ⟨by decide +kernel, rfl⟩
theorem dX7_turn_83 : Dc cX7_turn 83 (.ireturn) 1 84 := ⟨by decide +kernel, rfl⟩
theorem dX7_playBody_0 : Dc cX7_playBody 0 (.iconst 0) 1 1 := ⟨by decide +kernel, rfl⟩
theorem dX7_playBody_1 : Dc cX7_playBody 1 (.istore_n 2) 1 2 := ⟨by decide +kernel, rfl⟩
theorem dX7_playBody_2 : Dc cX7_playBody 2 (.iconst 0) 1 3 := ⟨by decide +kernel, rfl⟩
theorem dX7_playBody_3 : Dc cX7_playBody 3 (.istore_n 3) 1 4 := ⟨by decide +kernel, rfl⟩
theorem dX7_playBody_4 : Dc cX7_playBody 4 (.iload_n 3) 1 5 := ⟨by decide +kernel, rfl⟩
theorem dX7_playBody_5 : Dc cX7_playBody 5 (.iload_n 1) 1 6 := ⟨by decide +kernel, rfl⟩
theorem dX7_playBody_6 : Db cX7_playBody 6 (fun o => .if_icmp .ge o) 9 25 := ⟨19, by decide +kernel, rfl, rfl⟩
theorem dX7_playBody_9 : Dc cX7_playBody 9 (.iload_n 2) 1 10 := ⟨by decide +kernel, rfl⟩
theorem dX7_playBody_10 : Db cX7_playBody 10 (fun o => .ifCond .ne o) 13 25 := ⟨15, by decide +kernel, rfl, rfl⟩
theorem dX7_playBody_13 : Dc cX7_playBody 13 (.aload_n 0) 1 14 := ⟨by decide +kernel, rfl⟩
theorem dX7_playBody_14 : Dc cX7_playBody 14 (.iload_n 3) 1 15 := ⟨by decide +kernel, rfl⟩
theorem dX7_playBody_15 : Dc cX7_playBody 15 (.invokevirtual 98) 3 18 := ⟨by decide +kernel, rfl⟩
theorem dX7_playBody_18 : Dc cX7_playBody 18 (.istore_n 2) 1 19 := ⟨by decide +kernel, rfl⟩
theorem dX7_playBody_19 : Dc cX7_playBody 19 (.iinc 3 1) 3 22 := ⟨by decide +kernel, rfl⟩
theorem dX7_playBody_22 : Db cX7_playBody 22 .goto 25 4 := ⟨-18, by decide +kernel, rfl, rfl⟩
theorem dX7_playBody_25 : Dc cX7_playBody 25 (.aload_n 0) 1 26 := ⟨by decide +kernel, rfl⟩
theorem dX7_playBody_26 : Dc cX7_playBody 26 (.getfield 7) 3 29 := ⟨by decide +kernel, rfl⟩
theorem dX7_playBody_29 : Dc cX7_playBody 29 (.bipush 36) 2 31 := ⟨by decide +kernel, rfl⟩
theorem dX7_playBody_31 : Dc cX7_playBody 31 (.dup2) 1 32 := ⟨by decide +kernel, rfl⟩
theorem dX7_playBody_32 : Dc cX7_playBody 32 (.iaload) 1 33 := ⟨by decide +kernel, rfl⟩
theorem dX7_playBody_33 : Dc cX7_playBody 33 (.iconst 1) 1 34 := ⟨by decide +kernel, rfl⟩
theorem dX7_playBody_34 : Dc cX7_playBody 34 (.iadd) 1 35 := ⟨by decide +kernel, rfl⟩
theorem dX7_playBody_35 : Dc cX7_playBody 35 (.iastore) 1 36 := ⟨by decide +kernel, rfl⟩
theorem dX7_playBody_36 : Dc cX7_playBody 36 (.aload_n 0) 1 37 := ⟨by decide +kernel, rfl⟩
theorem dX7_playBody_37 : Dc cX7_playBody 37 (.getfield 7) 3 40 := ⟨by decide +kernel, rfl⟩
theorem dX7_playBody_40 : Dc cX7_playBody 40 (.bipush 37) 2 42 := ⟨by decide +kernel, rfl⟩
theorem dX7_playBody_42 : Dc cX7_playBody 42 (.iload_n 2) 1 43 := ⟨by decide +kernel, rfl⟩
theorem dX7_playBody_43 : Dc cX7_playBody 43 (.iastore) 1 44 := ⟨by decide +kernel, rfl⟩
theorem dX7_playBody_44 : Dc cX7_playBody 44 (.return_) 1 45 := ⟨by decide +kernel, rfl⟩
theorem dX7_playLoop_0 : Dc cX7_playLoop 0 (.aload_n 0) 1 1 := ⟨by decide +kernel, rfl⟩
theorem dX7_playLoop_1 : Dc cX7_playLoop 1 (.iload_n 1) 1 2 := ⟨by decide +kernel, rfl⟩
theorem dX7_playLoop_2 : Dc cX7_playLoop 2 (.invokevirtual 101) 3 5 := ⟨by decide +kernel, rfl⟩
theorem dX7_playLoop_5 : Dc cX7_playLoop 5 (.aload_n 0) 1 6 := ⟨by decide +kernel, rfl⟩
theorem dX7_playLoop_6 : Dc cX7_playLoop 6 (.iload_n 2) 1 7 := ⟨by decide +kernel, rfl⟩
theorem dX7_playLoop_7 : Dc cX7_playLoop 7 (.invokevirtual 105) 3 10 := ⟨by decide +kernel, rfl⟩
theorem dX7_playLoop_10 : Dc cX7_playLoop 10 (.return_) 1 11 := ⟨by decide +kernel, rfl⟩
theorem dX7_play_0 : Dc cX7_play 0 (.aload_n 0) 1 1 := ⟨by decide +kernel, rfl⟩
theorem dX7_play_1 : Dc cX7_play 1 (.iload_n 1) 1 2 := ⟨by decide +kernel, rfl⟩
theorem dX7_play_2 : Dc cX7_play 2 (.invokevirtual 92) 3 5 := ⟨by decide +kernel, rfl⟩
theorem dX7_play_5 : Db cX7_play 5 (fun o => .ifCond .ne o) 8 10 := ⟨5, by decide +kernel, rfl, rfl⟩
theorem dX7_play_8 : Dc cX7_play 8 (.iconst (-1)) 1 9 := ⟨by decide +kernel, rfl⟩
theorem dX7_play_9 : Dc cX7_play 9 (.ireturn) 1 10 := ⟨by decide +kernel, rfl⟩
theorem dX7_play_10 : Dc cX7_play 10 (.aload_n 0) 1 11 := ⟨by decide +kernel, rfl⟩
theorem dX7_play_11 : Dc cX7_play 11 (.getfield 7) 3 14 := ⟨by decide +kernel, rfl⟩
theorem dX7_play_14 : Dc cX7_play 14 (.bipush 32) 2 16 := ⟨by decide +kernel, rfl⟩
theorem dX7_play_16 : Dc cX7_play 16 (.iaload) 1 17 := ⟨by decide +kernel, rfl⟩
theorem dX7_play_17 : Dc cX7_play 17 (.iconst 1) 1 18 := ⟨by decide +kernel, rfl⟩
theorem dX7_play_18 : Db cX7_play 18 (fun o => .if_icmp .ne o) 21 24 := ⟨6, by decide +kernel, rfl, rfl⟩
theorem dX7_play_21 : Dc cX7_play 21 (.bipush (-4)) 2 23 := ⟨by decide +kernel, rfl⟩
theorem dX7_play_23 : Dc cX7_play 23 (.ireturn) 1 24 := ⟨by decide +kernel, rfl⟩
theorem dX7_play_24 : Dc cX7_play 24 (.aload_n 0) 1 25 := ⟨by decide +kernel, rfl⟩
theorem dX7_play_25 : Dc cX7_play 25 (.invokevirtual 53) 3 28 := ⟨by decide +kernel, rfl⟩
theorem dX7_play_28 : Dc cX7_play 28 (.aload_n 0) 1 29 := ⟨by decide +kernel, rfl⟩
theorem dX7_play_29 : Dc cX7_play 29 (.getfield 7) 3 32 := ⟨by decide +kernel, rfl⟩
theorem dX7_play_32 : Dc cX7_play 32 (.bipush 34) 2 34 := ⟨by decide +kernel, rfl⟩
theorem dX7_play_34 : Dc cX7_play 34 (.iaload) 1 35 := ⟨by decide +kernel, rfl⟩
theorem dX7_play_35 : Dc cX7_play 35 (.istore_n 2) 1 36 := ⟨by decide +kernel, rfl⟩
theorem dX7_play_36 : Dc cX7_play 36 (.aload_n 0) 1 37 := ⟨by decide +kernel, rfl⟩
theorem dX7_play_37 : Dc cX7_play 37 (.iload_n 1) 1 38 := ⟨by decide +kernel, rfl⟩
theorem dX7_play_38 : Dc cX7_play 38 (.aload_n 0) 1 39 := ⟨by decide +kernel, rfl⟩
theorem dX7_play_39 : Dc cX7_play 39 (.getfield 7) 3 42 := ⟨by decide +kernel, rfl⟩
theorem dX7_play_42 : Dc cX7_play 42 (.sipush 213) 3 45 := ⟨by decide +kernel, rfl⟩
theorem dX7_play_45 : Dc cX7_play 45 (.bipush 38) 2 47 := ⟨by decide +kernel, rfl⟩
theorem dX7_play_47 : Dc cX7_play 47 (.iload_n 1) 1 48 := ⟨by decide +kernel, rfl⟩
theorem dX7_play_48 : Dc cX7_play 48 (.imul) 1 49 := ⟨by decide +kernel, rfl⟩
theorem dX7_play_49 : Dc cX7_play 49 (.iadd) 1 50 := ⟨by decide +kernel, rfl⟩
theorem dX7_play_50 : Dc cX7_play 50 (.iconst 1) 1 51 := ⟨by decide +kernel, rfl⟩
theorem dX7_play_51 : Dc cX7_play 51 (.iadd) 1 52 := ⟨by decide +kernel, rfl⟩
theorem dX7_play_52 : Dc cX7_play 52 (.iaload) 1 53 := ⟨by decide +kernel, rfl⟩
theorem dX7_play_53 : Dc cX7_play 53 (.invokevirtual 108) 3 56 := ⟨by decide +kernel, rfl⟩
theorem dX7_play_56 : Dc cX7_play 56 (.aload_n 0) 1 57 := ⟨by decide +kernel, rfl⟩
theorem dX7_play_57 : Dc cX7_play 57 (.getfield 7) 3 60 := ⟨by decide +kernel, rfl⟩
theorem dX7_play_60 : Dc cX7_play 60 (.bipush 34) 2 62 := ⟨by decide +kernel, rfl⟩
theorem dX7_play_62 : Dc cX7_play 62 (.iaload) 1 63 := ⟨by decide +kernel, rfl⟩
theorem dX7_play_63 : Dc cX7_play 63 (.iload_n 2) 1 64 := ⟨by decide +kernel, rfl⟩
theorem dX7_play_64 : Dc cX7_play 64 (.isub) 1 65 := ⟨by decide +kernel, rfl⟩
theorem dX7_play_65 : Dc cX7_play 65 (.ireturn) 1 66 := ⟨by decide +kernel, rfl⟩
theorem dX7_type_0 : Dc cX7_type 0 (.aload_n 0) 1 1 := ⟨by decide +kernel, rfl⟩
theorem dX7_type_1 : Dc cX7_type 1 (.getfield 112) 3 4 := ⟨by decide +kernel, rfl⟩
theorem dX7_type_4 : Dc cX7_type 4 (.bipush 60) 2 6 := ⟨by decide +kernel, rfl⟩
theorem dX7_type_6 : Db cX7_type 6 (fun o => .if_icmp .ne o) 9 12 := ⟨6, by decide +kernel, rfl, rfl⟩
theorem dX7_type_9 : Dc cX7_type 9 (.bipush (-3)) 2 11 := ⟨by decide +kernel, rfl⟩
theorem dX7_type_11 : Dc cX7_type 11 (.ireturn) 1 12 := ⟨by decide +kernel, rfl⟩
theorem dX7_type_12 : Dc cX7_type 12 (.aload_n 0) 1 13 := ⟨by decide +kernel, rfl⟩
theorem dX7_type_13 : Dc cX7_type 13 (.getfield 22) 3 16 := ⟨by decide +kernel, rfl⟩
theorem dX7_type_16 : Dc cX7_type 16 (.aload_n 0) 1 17 := ⟨by decide +kernel, rfl⟩
theorem dX7_type_17 : Dc cX7_type 17 (.getfield 112) 3 20 := ⟨by decide +kernel, rfl⟩
theorem dX7_type_20 : Dc cX7_type 20 (.iload_n 1) 1 21 := ⟨by decide +kernel, rfl⟩
theorem dX7_type_21 : Dc cX7_type 21 (.iastore) 1 22 := ⟨by decide +kernel, rfl⟩
theorem dX7_type_22 : Dc cX7_type 22 (.aload_n 0) 1 23 := ⟨by decide +kernel, rfl⟩
theorem dX7_type_23 : Dc cX7_type 23 (.dup) 1 24 := ⟨by decide +kernel, rfl⟩
theorem dX7_type_24 : Dc cX7_type 24 (.getfield 112) 3 27 := ⟨by decide +kernel, rfl⟩
theorem dX7_type_27 : Dc cX7_type 27 (.iconst 1) 1 28 := ⟨by decide +kernel, rfl⟩
theorem dX7_type_28 : Dc cX7_type 28 (.iadd) 1 29 := ⟨by decide +kernel, rfl⟩
theorem dX7_type_29 : Dc cX7_type 29 (.putfield 112) 3 32 := ⟨by decide +kernel, rfl⟩
theorem dX7_type_32 : Dc cX7_type 32 (.aload_n 0) 1 33 := ⟨by decide +kernel, rfl⟩
theorem dX7_type_33 : Dc cX7_type 33 (.getfield 112) 3 36 := ⟨by decide +kernel, rfl⟩
theorem dX7_type_36 : Dc cX7_type 36 (.ireturn) 1 37 := ⟨by decide +kernel, rfl⟩
theorem dX7_clearText_0 : Dc cX7_clearText 0 (.aload_n 0) 1 1 := ⟨by decide +kernel, rfl⟩
theorem dX7_clearText_1 : Dc cX7_clearText 1 (.getfield 112) 3 4 := ⟨by decide +kernel, rfl⟩
theorem dX7_clearText_4 : Dc cX7_clearText 4 (.istore_n 1) 1 5 := ⟨by decide +kernel, rfl⟩
theorem dX7_clearText_5 : Dc cX7_clearText 5 (.aload_n 0) 1 6 := ⟨by decide +kernel, rfl⟩
theorem dX7_clearText_6 : Dc cX7_clearText 6 (.iconst 0) 1 7 := ⟨by decide +kernel, rfl⟩
theorem dX7_clearText_7 : Dc cX7_clearText 7 (.putfield 112) 3 10 := ⟨by decide +kernel, rfl⟩
theorem dX7_clearText_10 : Dc cX7_clearText 10 (.iload_n 1) 1 11 := ⟨by decide +kernel, rfl⟩
theorem dX7_clearText_11 : Dc cX7_clearText 11 (.ireturn) 1 12 := ⟨by decide +kernel, rfl⟩
theorem dX7_sees_0 : Dc cX7_sees 0 (.aload_n 0) 1 1 := ⟨by decide +kernel, rfl⟩
theorem dX7_sees_1 : Dc cX7_sees 1 (.getfield 115) 3 4 := ⟨by decide +kernel, rfl⟩
theorem dX7_sees_4 : Dc cX7_sees 4 (.aload_n 0) 1 5 := ⟨by decide +kernel, rfl⟩
theorem dX7_sees_5 : Dc cX7_sees 5 (.getfield 112) 3 8 := ⟨by decide +kernel, rfl⟩
theorem dX7_sees_8 : Db cX7_sees 8 (fun o => .if_icmp .ge o) 11 32 := ⟨24, by decide +kernel, rfl, rfl⟩
theorem dX7_sees_11 : Dc cX7_sees 11 (.aload_n 0) 1 12 := ⟨by decide +kernel, rfl⟩
theorem dX7_sees_12 : Dc cX7_sees 12 (.getfield 22) 3 15 := ⟨by decide +kernel, rfl⟩
theorem dX7_sees_15 : Dc cX7_sees 15 (.aload_n 0) 1 16 := ⟨by decide +kernel, rfl⟩
theorem dX7_sees_16 : Dc cX7_sees 16 (.getfield 115) 3 19 := ⟨by decide +kernel, rfl⟩
theorem dX7_sees_19 : Dc cX7_sees 19 (.iaload) 1 20 := ⟨by decide +kernel, rfl⟩
theorem dX7_sees_20 : Dc cX7_sees 20 (.iload_n 1) 1 21 := ⟨by decide +kernel, rfl⟩
theorem dX7_sees_21 : Dc cX7_sees 21 (.iload_n 2) 1 22 := ⟨by decide +kernel, rfl⟩
theorem dX7_sees_22 : Dc cX7_sees 22 (.invokestatic 37) 3 25 := ⟨by decide +kernel, rfl⟩
theorem dX7_sees_25 : Db cX7_sees 25 (fun o => .ifCond .eq o) 28 32 := ⟨7, by decide +kernel, rfl, rfl⟩
theorem dX7_sees_28 : Dc cX7_sees 28 (.iconst 1) 1 29 := ⟨by decide +kernel, rfl⟩
theorem dX7_sees_29 : Db cX7_sees 29 .goto 32 33 := ⟨4, by decide +kernel, rfl, rfl⟩
theorem dX7_sees_32 : Dc cX7_sees 32 (.iconst 0) 1 33 := ⟨by decide +kernel, rfl⟩
theorem dX7_sees_33 : Dc cX7_sees 33 (.ireturn) 1 34 := ⟨by decide +kernel, rfl⟩
theorem dX7_takes_0 : Dc cX7_takes 0 (.aload_n 0) 1 1 := ⟨by decide +kernel, rfl⟩
theorem dX7_takes_1 : Dc cX7_takes 1 (.iload_n 1) 1 2 := ⟨by decide +kernel, rfl⟩
theorem dX7_takes_2 : Dc cX7_takes 2 (.iload_n 1) 1 3 := ⟨by decide +kernel, rfl⟩
theorem dX7_takes_3 : Dc cX7_takes 3 (.invokevirtual 118) 3 6 := ⟨by decide +kernel, rfl⟩
theorem dX7_takes_6 : Dc cX7_takes 6 (.istore_n 2) 1 7 := ⟨by decide +kernel, rfl⟩
theorem dX7_takes_7 : Dc cX7_takes 7 (.aload_n 0) 1 8 := ⟨by decide +kernel, rfl⟩
theorem dX7_takes_8 : Dc cX7_takes 8 (.dup) 1 9 := ⟨by decide +kernel, rfl⟩
theorem dX7_takes_9 : Dc cX7_takes 9 (.getfield 115) 3 12 := ⟨by decide +kernel, rfl⟩
theorem dX7_takes_12 : Dc cX7_takes 12 (.iload_n 2) 1 13 := ⟨by decide +kernel, rfl⟩
theorem dX7_takes_13 : Db cX7_takes 13 (fun o => .ifCond .eq o) 16 20 := ⟨7, by decide +kernel, rfl, rfl⟩
theorem dX7_takes_16 : Dc cX7_takes 16 (.iconst 1) 1 17 := ⟨by decide +kernel, rfl⟩
theorem dX7_takes_17 : Db cX7_takes 17 .goto 20 21 := ⟨4, by decide +kernel, rfl, rfl⟩
theorem dX7_takes_20 : Dc cX7_takes 20 (.iconst 0) 1 21 := ⟨by decide +kernel, rfl⟩
theorem dX7_takes_21 : Dc cX7_takes 21 (.iadd) 1 22 := ⟨by decide +kernel, rfl⟩
theorem dX7_takes_22 : Dc cX7_takes 22 (.putfield 115) 3 25 := ⟨by decide +kernel, rfl⟩
theorem dX7_takes_25 : Dc cX7_takes 25 (.iload_n 2) 1 26 := ⟨by decide +kernel, rfl⟩
theorem dX7_takes_26 : Dc cX7_takes 26 (.ireturn) 1 27 := ⟨by decide +kernel, rfl⟩
theorem dX7_number_0 : Dc cX7_number 0 (.aload_n 0) 1 1 := ⟨by decide +kernel, rfl⟩
theorem dX7_number_1 : Dc cX7_number 1 (.bipush 48) 2 3 := ⟨by decide +kernel, rfl⟩
theorem dX7_number_3 : Dc cX7_number 3 (.iload_n 1) 1 4 := ⟨by decide +kernel, rfl⟩
theorem dX7_number_4 : Dc cX7_number 4 (.iadd) 1 5 := ⟨by decide +kernel, rfl⟩
theorem dX7_number_5 : Dc cX7_number 5 (.bipush 57) 2 7 := ⟨by decide +kernel, rfl⟩
theorem dX7_number_7 : Dc cX7_number 7 (.invokevirtual 118) 3 10 := ⟨by decide +kernel, rfl⟩
theorem dX7_number_10 : Db cX7_number 10 (fun o => .ifCond .ne o) 13 16 := ⟨6, by decide +kernel, rfl, rfl⟩
theorem dX7_number_13 : Dc cX7_number 13 (.bipush (-5)) 2 15 := ⟨by decide +kernel, rfl⟩
theorem dX7_number_15 : Dc cX7_number 15 (.ireturn) 1 16 := ⟨by decide +kernel, rfl⟩
theorem dX7_number_16 : Dc cX7_number 16 (.aload_n 0) 1 17 := ⟨by decide +kernel, rfl⟩
theorem dX7_number_17 : Dc cX7_number 17 (.getfield 22) 3 20 := ⟨by decide +kernel, rfl⟩
theorem dX7_number_20 : Dc cX7_number 20 (.aload_n 0) 1 21 := ⟨by decide +kernel, rfl⟩
theorem dX7_number_21 : Dc cX7_number 21 (.getfield 115) 3 24 := ⟨by decide +kernel, rfl⟩
theorem dX7_number_24 : Dc cX7_number 24 (.iaload) 1 25 := ⟨by decide +kernel, rfl⟩
theorem dX7_number_25 : Dc cX7_number 25 (.bipush 48) 2 27 := ⟨by decide +kernel, rfl⟩
theorem dX7_number_27 : Dc cX7_number 27 (.isub) 1 28 := ⟨by decide +kernel, rfl⟩
theorem dX7_number_28 : Dc cX7_number 28 (.istore_n 3) 1 29 := ⟨by decide +kernel, rfl⟩
theorem dX7_number_29 : Dc cX7_number 29 (.aload_n 0) 1 30 := ⟨by decide +kernel, rfl⟩
theorem dX7_number_30 : Dc cX7_number 30 (.dup) 1 31 := ⟨by decide +kernel, rfl⟩
theorem dX7_number_31 : Dc cX7_number 31 (.getfield 115) 3 34 := ⟨by decide +kernel, rfl⟩
theorem dX7_number_34 : Dc cX7_number 34 (.iconst 1) 1 35 := ⟨by decide +kernel, rfl⟩
theorem dX7_number_35 : Dc cX7_number 35 (.iadd) 1 36 := ⟨by decide +kernel, rfl⟩
theorem dX7_number_36 : Dc cX7_number 36 (.putfield 115) 3 39 := ⟨by decide +kernel, rfl⟩
theorem dX7_number_39 : Dc cX7_number 39 (.iload_n 3) 1 40 := ⟨by decide +kernel, rfl⟩
theorem dX7_number_40 : Db cX7_number 40 (fun o => .ifCond .le o) 43 106 := ⟨66, by decide +kernel, rfl, rfl⟩
theorem dX7_number_43 : Dc cX7_number 43 (.aload_n 0) 1 44 := ⟨by decide +kernel, rfl⟩
theorem dX7_number_44 : Dc cX7_number 44 (.bipush 48) 2 46 := ⟨by decide +kernel, rfl⟩
theorem dX7_number_46 : Dc cX7_number 46 (.bipush 57) 2 48 := ⟨by decide +kernel, rfl⟩
theorem dX7_number_48 : Dc cX7_number 48 (.invokevirtual 118) 3 51 := ⟨by decide +kernel, rfl⟩
theorem dX7_number_51 : Db cX7_number 51 (fun o => .ifCond .eq o) 54 106 := ⟨55, by decide +kernel, rfl, rfl⟩
theorem dX7_number_54 : Dc cX7_number 54 (.bipush 10) 2 56 := ⟨by decide +kernel, rfl⟩
theorem dX7_number_56 : Dc cX7_number 56 (.iload_n 3) 1 57 := ⟨by decide +kernel, rfl⟩
theorem dX7_number_57 : Dc cX7_number 57 (.imul) 1 58 := ⟨by decide +kernel, rfl⟩
theorem dX7_number_58 : Dc cX7_number 58 (.aload_n 0) 1 59 := ⟨by decide +kernel, rfl⟩
theorem dX7_number_59 : Dc cX7_number 59 (.getfield 22) 3 62 := ⟨by decide +kernel, rfl⟩
theorem dX7_number_62 : Dc cX7_number 62 (.aload_n 0) 1 63 := ⟨by decide +kernel, rfl⟩
theorem dX7_number_63 : Dc cX7_number 63 (.getfield 115) 3 66 := ⟨by decide +kernel, rfl⟩
theorem dX7_number_66 : Dc cX7_number 66 (.iaload) 1 67 := ⟨by decide +kernel, rfl⟩
theorem dX7_number_67 : Dc cX7_number 67 (.iadd) 1 68 := ⟨by decide +kernel, rfl⟩
theorem dX7_number_68 : Dc cX7_number 68 (.bipush 48) 2 70 := ⟨by decide +kernel, rfl⟩
theorem dX7_number_70 : Dc cX7_number 70 (.isub) 1 71 := ⟨by decide +kernel, rfl⟩
theorem dX7_number_71 : Dc cX7_number 71 (.iload_n 2) 1 72 := ⟨by decide +kernel, rfl⟩
theorem dX7_number_72 : Db cX7_number 72 (fun o => .if_icmp .gt o) 75 106 := ⟨34, by decide +kernel, rfl, rfl⟩
theorem dX7_number_75 : Dc cX7_number 75 (.bipush 10) 2 77 := ⟨by decide +kernel, rfl⟩
theorem dX7_number_77 : Dc cX7_number 77 (.iload_n 3) 1 78 := ⟨by decide +kernel, rfl⟩
theorem dX7_number_78 : Dc cX7_number 78 (.imul) 1 79 := ⟨by decide +kernel, rfl⟩
theorem dX7_number_79 : Dc cX7_number 79 (.aload_n 0) 1 80 := ⟨by decide +kernel, rfl⟩
theorem dX7_number_80 : Dc cX7_number 80 (.getfield 22) 3 83 := ⟨by decide +kernel, rfl⟩
theorem dX7_number_83 : Dc cX7_number 83 (.aload_n 0) 1 84 := ⟨by decide +kernel, rfl⟩
theorem dX7_number_84 : Dc cX7_number 84 (.getfield 115) 3 87 := ⟨by decide +kernel, rfl⟩
theorem dX7_number_87 : Dc cX7_number 87 (.iaload) 1 88 := ⟨by decide +kernel, rfl⟩
theorem dX7_number_88 : Dc cX7_number 88 (.iadd) 1 89 := ⟨by decide +kernel, rfl⟩
theorem dX7_number_89 : Dc cX7_number 89 (.bipush 48) 2 91 := ⟨by decide +kernel, rfl⟩
theorem dX7_number_91 : Dc cX7_number 91 (.isub) 1 92 := ⟨by decide +kernel, rfl⟩
theorem dX7_number_92 : Dc cX7_number 92 (.istore_n 3) 1 93 := ⟨by decide +kernel, rfl⟩
theorem dX7_number_93 : Dc cX7_number 93 (.aload_n 0) 1 94 := ⟨by decide +kernel, rfl⟩
theorem dX7_number_94 : Dc cX7_number 94 (.dup) 1 95 := ⟨by decide +kernel, rfl⟩
theorem dX7_number_95 : Dc cX7_number 95 (.getfield 115) 3 98 := ⟨by decide +kernel, rfl⟩
theorem dX7_number_98 : Dc cX7_number 98 (.iconst 1) 1 99 := ⟨by decide +kernel, rfl⟩
theorem dX7_number_99 : Dc cX7_number 99 (.iadd) 1 100 := ⟨by decide +kernel, rfl⟩
theorem dX7_number_100 : Dc cX7_number 100 (.putfield 115) 3 103 := ⟨by decide +kernel, rfl⟩
theorem dX7_number_103 : Db cX7_number 103 .goto 106 39 := ⟨-64, by decide +kernel, rfl, rfl⟩
theorem dX7_number_106 : Dc cX7_number 106 (.iload_n 3) 1 107 := ⟨by decide +kernel, rfl⟩
theorem dX7_number_107 : Dc cX7_number 107 (.ireturn) 1 108 := ⟨by decide +kernel, rfl⟩
theorem dX7_verbBy_0 : Dc cX7_verbBy 0 (.iload_n 0) 1 1 := ⟨by decide +kernel, rfl⟩
theorem dX7_verbBy_1 : decode cX7_verbBy 1 = .ok (.lookupswitch 71 #[(97, 63), (99, 65), (103, 59), (115, 67), (116, 69), (119, 61)], 59) := by decide +kernel
theorem dX7_verbBy_60 : Dc cX7_verbBy 60 (.iconst 0) 1 61 := ⟨by decide +kernel, rfl⟩
theorem dX7_verbBy_61 : Dc cX7_verbBy 61 (.ireturn) 1 62 := ⟨by decide +kernel, rfl⟩
theorem dX7_verbBy_62 : Dc cX7_verbBy 62 (.iconst 1) 1 63 := ⟨by decide +kernel, rfl⟩
theorem dX7_verbBy_63 : Dc cX7_verbBy 63 (.ireturn) 1 64 := ⟨by decide +kernel, rfl⟩
theorem dX7_verbBy_64 : Dc cX7_verbBy 64 (.iconst 2) 1 65 := ⟨by decide +kernel, rfl⟩
theorem dX7_verbBy_65 : Dc cX7_verbBy 65 (.ireturn) 1 66 := ⟨by decide +kernel, rfl⟩
theorem dX7_verbBy_66 : Dc cX7_verbBy 66 (.iconst 3) 1 67 := ⟨by decide +kernel, rfl⟩
theorem dX7_verbBy_67 : Dc cX7_verbBy 67 (.ireturn) 1 68 := ⟨by decide +kernel, rfl⟩
theorem dX7_verbBy_68 : Dc cX7_verbBy 68 (.iconst 4) 1 69 := ⟨by decide +kernel, rfl⟩
theorem dX7_verbBy_69 : Dc cX7_verbBy 69 (.ireturn) 1 70 := ⟨by decide +kernel, rfl⟩
theorem dX7_verbBy_70 : Dc cX7_verbBy 70 (.iconst 5) 1 71 := ⟨by decide +kernel, rfl⟩
theorem dX7_verbBy_71 : Dc cX7_verbBy 71 (.ireturn) 1 72 := ⟨by decide +kernel, rfl⟩
theorem dX7_verbBy_72 : Dc cX7_verbBy 72 (.bipush (-5)) 2 74 := ⟨by decide +kernel, rfl⟩
theorem dX7_verbBy_74 : Dc cX7_verbBy 74 (.ireturn) 1 75 := ⟨by decide +kernel, rfl⟩
theorem dX7_readStep_0 : Dc cX7_readStep 0 (.aload_n 0) 1 1 := ⟨by decide +kernel, rfl⟩
theorem dX7_readStep_1 : Dc cX7_readStep 1 (.getfield 115) 3 4 := ⟨by decide +kernel, rfl⟩
theorem dX7_readStep_4 : Dc cX7_readStep 4 (.aload_n 0) 1 5 := ⟨by decide +kernel, rfl⟩
theorem dX7_readStep_5 : Dc cX7_readStep 5 (.getfield 112) 3 8 := ⟨by decide +kernel, rfl⟩
theorem dX7_readStep_8 : Db cX7_readStep 8 (fun o => .if_icmp .ge o) 11 26 := ⟨18, by decide +kernel, rfl, rfl⟩
theorem dX7_readStep_11 : Dc cX7_readStep 11 (.aload_n 0) 1 12 := ⟨by decide +kernel, rfl⟩
theorem dX7_readStep_12 : Dc cX7_readStep 12 (.getfield 22) 3 15 := ⟨by decide +kernel, rfl⟩
theorem dX7_readStep_15 : Dc cX7_readStep 15 (.aload_n 0) 1 16 := ⟨by decide +kernel, rfl⟩
theorem dX7_readStep_16 : Dc cX7_readStep 16 (.getfield 115) 3 19 := ⟨by decide +kernel, rfl⟩
theorem dX7_readStep_19 : Dc cX7_readStep 19 (.iaload) 1 20 := ⟨by decide +kernel, rfl⟩
theorem dX7_readStep_20 : Dc cX7_readStep 20 (.invokestatic 121) 3 23 := ⟨by decide +kernel, rfl⟩
theorem dX7_readStep_23 : Db cX7_readStep 23 .goto 26 28 := ⟨5, by decide +kernel, rfl, rfl⟩
theorem dX7_readStep_26 : Dc cX7_readStep 26 (.bipush (-5)) 2 28 := ⟨by decide +kernel, rfl⟩
theorem dX7_readStep_28 : Dc cX7_readStep 28 (.istore_n 2) 1 29 := ⟨by decide +kernel, rfl⟩
theorem dX7_readStep_29 : Dc cX7_readStep 29 (.iload_n 2) 1 30 := ⟨by decide +kernel, rfl⟩
theorem dX7_readStep_30 : Dc cX7_readStep 30 (.bipush (-5)) 2 32 := ⟨by decide +kernel, rfl⟩
theorem dX7_readStep_32 : Db cX7_readStep 32 (fun o => .if_icmp .ne o) 35 37 := ⟨5, by decide +kernel, rfl, rfl⟩
theorem dX7_readStep_35 : Dc cX7_readStep 35 (.iconst 0) 1 36 := ⟨by decide +kernel, rfl⟩
theorem dX7_readStep_36 : Dc cX7_readStep 36 (.ireturn) 1 37 := ⟨by decide +kernel, rfl⟩
theorem dX7_readStep_37 : Dc cX7_readStep 37 (.aload_n 0) 1 38 := ⟨by decide +kernel, rfl⟩
theorem dX7_readStep_38 : Dc cX7_readStep 38 (.dup) 1 39 := ⟨by decide +kernel, rfl⟩
theorem dX7_readStep_39 : Dc cX7_readStep 39 (.getfield 115) 3 42 := ⟨by decide +kernel, rfl⟩
theorem dX7_readStep_42 : Dc cX7_readStep 42 (.iconst 1) 1 43 := ⟨by decide +kernel, rfl⟩
theorem dX7_readStep_43 : Dc cX7_readStep 43 (.iadd) 1 44 := ⟨by decide +kernel, rfl⟩
theorem dX7_readStep_44 : Dc cX7_readStep 44 (.putfield 115) 3 47 := ⟨by decide +kernel, rfl⟩
theorem dX7_readStep_47 : Dc cX7_readStep 47 (.aload_n 0) 1 48 := ⟨by decide +kernel, rfl⟩
theorem dX7_readStep_48 : Dc cX7_readStep 48 (.iconst 0) 1 49 := ⟨by decide +kernel, rfl⟩
theorem dX7_readStep_49 : Dc cX7_readStep 49 (.iload_n 2) 1 50 := ⟨by decide +kernel, rfl⟩
theorem dX7_readStep_50 : Dc cX7_readStep 50 (.invokestatic 56) 3 53 := ⟨by decide +kernel, rfl⟩
theorem dX7_readStep_53 : Dc cX7_readStep 53 (.invokevirtual 124) 3 56 := ⟨by decide +kernel, rfl⟩
theorem dX7_readStep_56 : Dc cX7_readStep 56 (.istore_n 3) 1 57 := ⟨by decide +kernel, rfl⟩
theorem dX7_readStep_57 : Dc cX7_readStep 57 (.iload_n 3) 1 58 := ⟨by decide +kernel, rfl⟩
theorem dX7_readStep_58 : Dc cX7_readStep 58 (.bipush (-5)) 2 60 := ⟨by decide +kernel, rfl⟩
theorem dX7_readStep_60 : Db cX7_readStep 60 (fun o => .if_icmp .ne o) 63 65 := ⟨5, by decide +kernel, rfl, rfl⟩
theorem dX7_readStep_63 : Dc cX7_readStep 63 (.iconst 0) 1 64 := ⟨by decide +kernel, rfl⟩
theorem dX7_readStep_64 : Dc cX7_readStep 64 (.ireturn) 1 65 := ⟨by decide +kernel, rfl⟩
theorem dX7_readStep_65 : Dc cX7_readStep 65 (.iconst 0) 1 66 := ⟨by decide +kernel, rfl⟩
theorem dX7_readStep_66 : Dc cX7_readStep 66 (.istore 4) 2 68 := ⟨by decide +kernel, rfl⟩
theorem dX7_readStep_68 : Dc cX7_readStep 68 (.iload_n 1) 1 69 := ⟨by decide +kernel, rfl⟩
theorem dX7_readStep_69 : Db cX7_readStep 69 (fun o => .ifCond .eq o) 72 154 := ⟨85, by decide +kernel, rfl, rfl⟩
theorem dX7_readStep_72 : Dc cX7_readStep 72 (.aload_n 0) 1 73 := ⟨by decide +kernel, rfl⟩
theorem dX7_readStep_73 : Dc cX7_readStep 73 (.bipush 43) 2 75 := ⟨by decide +kernel, rfl⟩
theorem dX7_readStep_75 : Dc cX7_readStep 75 (.bipush 43) 2 77 := ⟨by decide +kernel, rfl⟩
theorem dX7_readStep_77 : Dc cX7_readStep 77 (.invokevirtual 118) 3 80 := ⟨by decide +kernel, rfl⟩
theorem dX7_readStep_80 : Db cX7_readStep 80 (fun o => .ifCond .ne o) 83 94 := ⟨14, by decide +kernel, rfl, rfl⟩
theorem dX7_readStep_83 : Dc cX7_readStep 83 (.aload_n 0) 1 84 := ⟨by decide +kernel, rfl⟩
theorem dX7_readStep_84 : Dc cX7_readStep 84 (.bipush 45) 2 86 := ⟨by decide +kernel, rfl⟩
theorem dX7_readStep_86 : Dc cX7_readStep 86 (.bipush 45) 2 88 := ⟨by decide +kernel, rfl⟩
theorem dX7_readStep_88 : Dc cX7_readStep 88 (.invokevirtual 118) 3 91 := ⟨by decide +kernel, rfl⟩
theorem dX7_readStep_91 : Db cX7_readStep 91 (fun o => .ifCond .eq o) 94 154 := ⟨63, by decide +kernel, rfl, rfl⟩
theorem dX7_readStep_94 : Dc cX7_readStep 94 (.aload_n 0) 1 95 := ⟨by decide +kernel, rfl⟩
theorem dX7_readStep_95 : Dc cX7_readStep 95 (.bipush 43) 2 97 := ⟨by decide +kernel, rfl⟩
theorem dX7_readStep_97 : Dc cX7_readStep 97 (.invokevirtual 127) 3 100 := ⟨by decide +kernel, rfl⟩
theorem dX7_readStep_100 : Db cX7_readStep 100 (fun o => .ifCond .eq o) 103 107 := ⟨7, by decide +kernel, rfl, rfl⟩
theorem dX7_readStep_103 : Dc cX7_readStep 103 (.iconst 1) 1 104 := ⟨by decide +kernel, rfl⟩
theorem dX7_readStep_104 : Db cX7_readStep 104 .goto 107 108 := ⟨4, by decide +kernel, rfl, rfl⟩
theorem dX7_readStep_107 : Dc cX7_readStep 107 (.iconst (-1)) 1 108 := ⟨by decide +kernel, rfl⟩
theorem dX7_readStep_108 : Dc cX7_readStep 108 (.istore 5) 2 110 := ⟨by decide +kernel, rfl⟩
theorem dX7_readStep_110 : Dc cX7_readStep 110 (.aload_n 0) 1 111 := ⟨by decide +kernel, rfl⟩
theorem dX7_readStep_111 : Dc cX7_readStep 111 (.dup) 1 112 := ⟨by decide +kernel, rfl⟩
theorem dX7_readStep_112 : Dc cX7_readStep 112 (.getfield 115) 3 115 := ⟨by decide +kernel, rfl⟩
theorem dX7_readStep_115 : Dc cX7_readStep 115 (.iload 5) 2 117 := ⟨by decide +kernel, rfl⟩
theorem dX7_readStep_117 : Db cX7_readStep 117 (fun o => .ifCond .ge o) 120 124 := ⟨7, by decide +kernel, rfl, rfl⟩
theorem dX7_readStep_120 : Dc cX7_readStep 120 (.iconst 1) 1 121 := ⟨by decide +kernel, rfl⟩
theorem dX7_readStep_121 : Db cX7_readStep 121 .goto 124 125 := ⟨4, by decide +kernel, rfl, rfl⟩
theorem dX7_readStep_124 : Dc cX7_readStep 124 (.iconst 0) 1 125 := ⟨by decide +kernel, rfl⟩
theorem dX7_readStep_125 : Dc cX7_readStep 125 (.iadd) 1 126 := ⟨by decide +kernel, rfl⟩
theorem dX7_readStep_126 : Dc cX7_readStep 126 (.putfield 115) 3 129 := ⟨by decide +kernel, rfl⟩
theorem dX7_readStep_129 : Dc cX7_readStep 129 (.aload_n 0) 1 130 := ⟨by decide +kernel, rfl⟩
theorem dX7_readStep_130 : Dc cX7_readStep 130 (.iconst 1) 1 131 := ⟨by decide +kernel, rfl⟩
theorem dX7_readStep_131 : Dc cX7_readStep 131 (.bipush 99) 2 133 := ⟨by decide +kernel, rfl⟩
theorem dX7_readStep_133 : Dc cX7_readStep 133 (.invokevirtual 124) 3 136 := ⟨by decide +kernel, rfl⟩
theorem dX7_readStep_136 : Dc cX7_readStep 136 (.istore 4) 2 138 := ⟨by decide +kernel, rfl⟩
theorem dX7_readStep_138 : Dc cX7_readStep 138 (.iload 4) 2 140 := ⟨by decide +kernel, rfl⟩
theorem dX7_readStep_140 : Dc cX7_readStep 140 (.bipush (-5)) 2 142 := ⟨by decide +kernel, rfl⟩
theorem dX7_readStep_142 : Db cX7_readStep 142 (fun o => .if_icmp .ne o) 145 147 := ⟨5, by decide +kernel, rfl, rfl⟩
theorem dX7_readStep_145 : Dc cX7_readStep 145 (.iconst 0) 1 146 := ⟨by decide +kernel, rfl⟩
theorem dX7_readStep_146 : Dc cX7_readStep 146 (.ireturn) 1 147 := ⟨by decide +kernel, rfl⟩
theorem dX7_readStep_147 : Dc cX7_readStep 147 (.iload 4) 2 149 := ⟨by decide +kernel, rfl⟩
theorem dX7_readStep_149 : Dc cX7_readStep 149 (.iload 5) 2 151 := ⟨by decide +kernel, rfl⟩
theorem dX7_readStep_151 : Dc cX7_readStep 151 (.imul) 1 152 := ⟨by decide +kernel, rfl⟩
theorem dX7_readStep_152 : Dc cX7_readStep 152 (.istore 4) 2 154 := ⟨by decide +kernel, rfl⟩
theorem dX7_readStep_154 : Dc cX7_readStep 154 (.aload_n 0) 1 155 := ⟨by decide +kernel, rfl⟩
theorem dX7_readStep_155 : Dc cX7_readStep 155 (.getfield 25) 3 158 := ⟨by decide +kernel, rfl⟩
theorem dX7_readStep_158 : Dc cX7_readStep 158 (.aload_n 0) 1 159 := ⟨by decide +kernel, rfl⟩
theorem dX7_readStep_159 : Dc cX7_readStep 159 (.getfield 95) 3 162 := ⟨by decide +kernel, rfl⟩
theorem dX7_readStep_162 : Dc cX7_readStep 162 (.iload_n 2) 1 163 := ⟨by decide +kernel, rfl⟩
theorem dX7_readStep_163 : Dc cX7_readStep 163 (.iastore) 1 164 := ⟨by decide +kernel, rfl⟩
theorem dX7_readStep_164 : Dc cX7_readStep 164 (.aload_n 0) 1 165 := ⟨by decide +kernel, rfl⟩
theorem dX7_readStep_165 : Dc cX7_readStep 165 (.getfield 28) 3 168 := ⟨by decide +kernel, rfl⟩
theorem dX7_readStep_168 : Dc cX7_readStep 168 (.aload_n 0) 1 169 := ⟨by decide +kernel, rfl⟩
theorem dX7_readStep_169 : Dc cX7_readStep 169 (.getfield 95) 3 172 := ⟨by decide +kernel, rfl⟩
theorem dX7_readStep_172 : Dc cX7_readStep 172 (.iload_n 3) 1 173 := ⟨by decide +kernel, rfl⟩
theorem dX7_readStep_173 : Dc cX7_readStep 173 (.iastore) 1 174 := ⟨by decide +kernel, rfl⟩
theorem dX7_readStep_174 : Dc cX7_readStep 174 (.aload_n 0) 1 175 := ⟨by decide +kernel, rfl⟩
theorem dX7_readStep_175 : Dc cX7_readStep 175 (.getfield 31) 3 178 := ⟨by decide +kernel, rfl⟩
theorem dX7_readStep_178 : Dc cX7_readStep 178 (.aload_n 0) 1 179 := ⟨by decide +kernel, rfl⟩
theorem dX7_readStep_179 : Dc cX7_readStep 179 (.getfield 95) 3 182 := ⟨by decide +kernel, rfl⟩
theorem dX7_readStep_182 : Dc cX7_readStep 182 (.iload 4) 2 184 := ⟨by decide +kernel, rfl⟩
theorem dX7_readStep_184 : Dc cX7_readStep 184 (.iastore) 1 185 := ⟨by decide +kernel, rfl⟩
theorem dX7_readStep_185 : Dc cX7_readStep 185 (.aload_n 0) 1 186 := ⟨by decide +kernel, rfl⟩
theorem dX7_readStep_186 : Dc cX7_readStep 186 (.dup) 1 187 := ⟨by decide +kernel, rfl⟩
theorem dX7_readStep_187 : Dc cX7_readStep 187 (.getfield 95) 3 190 := ⟨by decide +kernel, rfl⟩
theorem dX7_readStep_190 : Dc cX7_readStep 190 (.iconst 1) 1 191 := ⟨by decide +kernel, rfl⟩
theorem dX7_readStep_191 : Dc cX7_readStep 191 (.iadd) 1 192 := ⟨by decide +kernel, rfl⟩
theorem dX7_readStep_192 : Dc cX7_readStep 192 (.putfield 95) 3 195 := ⟨by decide +kernel, rfl⟩
theorem dX7_readStep_195 : Dc cX7_readStep 195 (.iconst 1) 1 196 := ⟨by decide +kernel, rfl⟩
theorem dX7_readStep_196 : Dc cX7_readStep 196 (.ireturn) 1 197 := ⟨by decide +kernel, rfl⟩
theorem dX7_readItem_0 : Dc cX7_readItem 0 (.aload_n 0) 1 1 := ⟨by decide +kernel, rfl⟩
theorem dX7_readItem_1 : Dc cX7_readItem 1 (.iconst 0) 1 2 := ⟨by decide +kernel, rfl⟩
theorem dX7_readItem_2 : Dc cX7_readItem 2 (.putfield 95) 3 5 := ⟨by decide +kernel, rfl⟩
theorem dX7_readItem_5 : Dc cX7_readItem 5 (.aload_n 0) 1 6 := ⟨by decide +kernel, rfl⟩
theorem dX7_readItem_6 : Dc cX7_readItem 6 (.bipush 49) 2 8 := ⟨by decide +kernel, rfl⟩
theorem dX7_readItem_8 : Dc cX7_readItem 8 (.bipush 57) 2 10 := ⟨by decide +kernel, rfl⟩
theorem dX7_readItem_10 : Dc cX7_readItem 10 (.invokevirtual 118) 3 13 := ⟨by decide +kernel, rfl⟩
theorem dX7_readItem_13 : Db cX7_readItem 13 (fun o => .ifCond .ne o) 16 31 := ⟨18, by decide +kernel, rfl, rfl⟩
theorem dX7_readItem_16 : Dc cX7_readItem 16 (.aload_n 0) 1 17 := ⟨by decide +kernel, rfl⟩
theorem dX7_readItem_17 : Dc cX7_readItem 17 (.iconst 0) 1 18 := ⟨by decide +kernel, rfl⟩
theorem dX7_readItem_18 : Dc cX7_readItem 18 (.invokevirtual 130) 3 21 := ⟨by decide +kernel, rfl⟩
theorem dX7_readItem_21 : Db cX7_readItem 21 (fun o => .ifCond .eq o) 24 28 := ⟨7, by decide +kernel, rfl, rfl⟩
theorem dX7_readItem_24 : Dc cX7_readItem 24 (.iconst 0) 1 25 := ⟨by decide +kernel, rfl⟩
theorem dX7_readItem_25 : Db cX7_readItem 25 .goto 28 30 := ⟨5, by decide +kernel, rfl, rfl⟩
theorem dX7_readItem_28 : Dc cX7_readItem 28 (.bipush (-5)) 2 30 := ⟨by decide +kernel, rfl⟩
theorem dX7_readItem_30 : Dc cX7_readItem 30 (.ireturn) 1 31 := ⟨by decide +kernel, rfl⟩
theorem dX7_readItem_31 : Dc cX7_readItem 31 (.aload_n 0) 1 32 := ⟨by decide +kernel, rfl⟩
theorem dX7_readItem_32 : Dc cX7_readItem 32 (.iconst 1) 1 33 := ⟨by decide +kernel, rfl⟩
theorem dX7_readItem_33 : Dc cX7_readItem 33 (.bipush 99) 2 35 := ⟨by decide +kernel, rfl⟩
theorem dX7_readItem_35 : Dc cX7_readItem 35 (.invokevirtual 124) 3 38 := ⟨by decide +kernel, rfl⟩
theorem dX7_readItem_38 : Dc cX7_readItem 38 (.istore_n 1) 1 39 := ⟨by decide +kernel, rfl⟩
theorem dX7_readItem_39 : Dc cX7_readItem 39 (.iload_n 1) 1 40 := ⟨by decide +kernel, rfl⟩
theorem dX7_readItem_40 : Dc cX7_readItem 40 (.iconst 1) 1 41 := ⟨by decide +kernel, rfl⟩
theorem dX7_readItem_41 : Db cX7_readItem 41 (fun o => .if_icmp .eq o) 44 61 := ⟨20, by decide +kernel, rfl, rfl⟩
theorem dX7_readItem_44 : Dc cX7_readItem 44 (.aload_n 0) 1 45 := ⟨by decide +kernel, rfl⟩
theorem dX7_readItem_45 : Dc cX7_readItem 45 (.bipush 40) 2 47 := ⟨by decide +kernel, rfl⟩
theorem dX7_readItem_47 : Dc cX7_readItem 47 (.invokevirtual 127) 3 50 := ⟨by decide +kernel, rfl⟩
theorem dX7_readItem_50 : Db cX7_readItem 50 (fun o => .ifCond .eq o) 53 61 := ⟨11, by decide +kernel, rfl, rfl⟩
theorem dX7_readItem_53 : Dc cX7_readItem 53 (.aload_n 0) 1 54 := ⟨by decide +kernel, rfl⟩
theorem dX7_readItem_54 : Dc cX7_readItem 54 (.iconst 1) 1 55 := ⟨by decide +kernel, rfl⟩
theorem dX7_readItem_55 : Dc cX7_readItem 55 (.invokevirtual 130) 3 58 := ⟨by decide +kernel, rfl⟩
theorem dX7_readItem_58 : Db cX7_readItem 58 (fun o => .ifCond .ne o) 61 64 := ⟨6, by decide +kernel, rfl, rfl⟩
theorem dX7_readItem_61 : Dc cX7_readItem 61 (.bipush (-5)) 2 63 := ⟨by decide +kernel, rfl⟩
theorem dX7_readItem_63 : Dc cX7_readItem 63 (.ireturn) 1 64 := ⟨by decide +kernel, rfl⟩
theorem dX7_readItem_64 : Dc cX7_readItem 64 (.aload_n 0) 1 65 := ⟨by decide +kernel, rfl⟩
theorem dX7_readItem_65 : Dc cX7_readItem 65 (.bipush 44) 2 67 := ⟨by decide +kernel, rfl⟩
theorem dX7_readItem_67 : Dc cX7_readItem 67 (.invokevirtual 127) 3 70 := ⟨by decide +kernel, rfl⟩
theorem dX7_readItem_70 : Db cX7_readItem 70 (fun o => .ifCond .eq o) 73 84 := ⟨14, by decide +kernel, rfl, rfl⟩
theorem dX7_readItem_73 : Dc cX7_readItem 73 (.aload_n 0) 1 74 := ⟨by decide +kernel, rfl⟩
theorem dX7_readItem_74 : Dc cX7_readItem 74 (.iconst 1) 1 75 := ⟨by decide +kernel, rfl⟩
theorem dX7_readItem_75 : Dc cX7_readItem 75 (.invokevirtual 130) 3 78 := ⟨by decide +kernel, rfl⟩
theorem dX7_readItem_78 : Db cX7_readItem 78 (fun o => .ifCond .ne o) 81 64 := ⟨-14, by decide +kernel, rfl, rfl⟩
theorem dX7_readItem_81 : Dc cX7_readItem 81 (.bipush (-5)) 2 83 := ⟨by decide +kernel, rfl⟩
theorem dX7_readItem_83 : Dc cX7_readItem 83 (.ireturn) 1 84 := ⟨by decide +kernel, rfl⟩
theorem dX7_readItem_84 : Dc cX7_readItem 84 (.aload_n 0) 1 85 := ⟨by decide +kernel, rfl⟩
theorem dX7_readItem_85 : Dc cX7_readItem 85 (.bipush 41) 2 87 := ⟨by decide +kernel, rfl⟩
theorem dX7_readItem_87 : Dc cX7_readItem 87 (.invokevirtual 127) 3 90 := ⟨by decide +kernel, rfl⟩
theorem dX7_readItem_90 : Db cX7_readItem 90 (fun o => .ifCond .eq o) 93 97 := ⟨7, by decide +kernel, rfl, rfl⟩
theorem dX7_readItem_93 : Dc cX7_readItem 93 (.iload_n 1) 1 94 := ⟨by decide +kernel, rfl⟩
theorem dX7_readItem_94 : Db cX7_readItem 94 .goto 97 99 := ⟨5, by decide +kernel, rfl, rfl⟩
theorem dX7_readItem_97 : Dc cX7_readItem 97 (.bipush (-5)) 2 99 := ⟨by decide +kernel, rfl⟩
theorem dX7_readItem_99 : Dc cX7_readItem 99 (.ireturn) 1 100 := ⟨by decide +kernel, rfl⟩
theorem dX7_readText_0 : Dc cX7_readText 0 (.aload_n 0) 1 1 := ⟨by decide +kernel, rfl⟩
theorem dX7_readText_1 : Dc cX7_readText 1 (.iconst 0) 1 2 := ⟨by decide +kernel, rfl⟩
theorem dX7_readText_2 : Dc cX7_readText 2 (.putfield 115) 3 5 := ⟨by decide +kernel, rfl⟩
theorem dX7_readText_5 : Dc cX7_readText 5 (.iconst 1) 1 6 := ⟨by decide +kernel, rfl⟩
theorem dX7_readText_6 : Dc cX7_readText 6 (.istore_n 2) 1 7 := ⟨by decide +kernel, rfl⟩
theorem dX7_readText_7 : Dc cX7_readText 7 (.iload_n 2) 1 8 := ⟨by decide +kernel, rfl⟩
theorem dX7_readText_8 : Db cX7_readText 8 (fun o => .ifCond .eq o) 11 71 := ⟨63, by decide +kernel, rfl, rfl⟩
theorem dX7_readText_11 : Dc cX7_readText 11 (.aload_n 0) 1 12 := ⟨by decide +kernel, rfl⟩
theorem dX7_readText_12 : Dc cX7_readText 12 (.invokevirtual 134) 3 15 := ⟨by decide +kernel, rfl⟩
theorem dX7_readText_15 : Dc cX7_readText 15 (.istore_n 3) 1 16 := ⟨by decide +kernel, rfl⟩
theorem dX7_readText_16 : Dc cX7_readText 16 (.iload_n 3) 1 17 := ⟨by decide +kernel, rfl⟩
theorem dX7_readText_17 : Dc cX7_readText 17 (.bipush (-5)) 2 19 := ⟨by decide +kernel, rfl⟩
theorem dX7_readText_19 : Db cX7_readText 19 (fun o => .if_icmp .ne o) 22 24 := ⟨5, by decide +kernel, rfl, rfl⟩
theorem dX7_readText_22 : Dc cX7_readText 22 (.iconst 0) 1 23 := ⟨by decide +kernel, rfl⟩
theorem dX7_readText_23 : Dc cX7_readText 23 (.ireturn) 1 24 := ⟨by decide +kernel, rfl⟩
theorem dX7_readText_24 : Dc cX7_readText 24 (.iload_n 1) 1 25 := ⟨by decide +kernel, rfl⟩
theorem dX7_readText_25 : Db cX7_readText 25 (fun o => .ifCond .eq o) 28 52 := ⟨27, by decide +kernel, rfl, rfl⟩
theorem dX7_readText_28 : Dc cX7_readText 28 (.iload_n 3) 1 29 := ⟨by decide +kernel, rfl⟩
theorem dX7_readText_29 : Db cX7_readText 29 (fun o => .ifCond .ne o) 32 52 := ⟨23, by decide +kernel, rfl, rfl⟩
theorem dX7_readText_32 : Dc cX7_readText 32 (.aload_n 0) 1 33 := ⟨by decide +kernel, rfl⟩
theorem dX7_readText_33 : Dc cX7_readText 33 (.aload_n 0) 1 34 := ⟨by decide +kernel, rfl⟩
theorem dX7_readText_34 : Dc cX7_readText 34 (.getfield 25) 3 37 := ⟨by decide +kernel, rfl⟩
theorem dX7_readText_37 : Dc cX7_readText 37 (.iconst 0) 1 38 := ⟨by decide +kernel, rfl⟩
theorem dX7_readText_38 : Dc cX7_readText 38 (.iaload) 1 39 := ⟨by decide +kernel, rfl⟩
theorem dX7_readText_39 : Dc cX7_readText 39 (.aload_n 0) 1 40 := ⟨by decide +kernel, rfl⟩
theorem dX7_readText_40 : Dc cX7_readText 40 (.getfield 28) 3 43 := ⟨by decide +kernel, rfl⟩
theorem dX7_readText_43 : Dc cX7_readText 43 (.iconst 0) 1 44 := ⟨by decide +kernel, rfl⟩
theorem dX7_readText_44 : Dc cX7_readText 44 (.iaload) 1 45 := ⟨by decide +kernel, rfl⟩
theorem dX7_readText_45 : Dc cX7_readText 45 (.invokevirtual 63) 3 48 := ⟨by decide +kernel, rfl⟩
theorem dX7_readText_48 : Dc cX7_readText 48 (.pop) 1 49 := ⟨by decide +kernel, rfl⟩
theorem dX7_readText_49 : Db cX7_readText 49 .goto 52 61 := ⟨12, by decide +kernel, rfl, rfl⟩
theorem dX7_readText_52 : Dc cX7_readText 52 (.iload_n 1) 1 53 := ⟨by decide +kernel, rfl⟩
theorem dX7_readText_53 : Db cX7_readText 53 (fun o => .ifCond .eq o) 56 61 := ⟨8, by decide +kernel, rfl, rfl⟩
theorem dX7_readText_56 : Dc cX7_readText 56 (.aload_n 0) 1 57 := ⟨by decide +kernel, rfl⟩
theorem dX7_readText_57 : Dc cX7_readText 57 (.iload_n 3) 1 58 := ⟨by decide +kernel, rfl⟩
theorem dX7_readText_58 : Dc cX7_readText 58 (.invokevirtual 105) 3 61 := ⟨by decide +kernel, rfl⟩
theorem dX7_readText_61 : Dc cX7_readText 61 (.aload_n 0) 1 62 := ⟨by decide +kernel, rfl⟩
theorem dX7_readText_62 : Dc cX7_readText 62 (.bipush 59) 2 64 := ⟨by decide +kernel, rfl⟩
theorem dX7_readText_64 : Dc cX7_readText 64 (.invokevirtual 127) 3 67 := ⟨by decide +kernel, rfl⟩
theorem dX7_readText_67 : Dc cX7_readText 67 (.istore_n 2) 1 68 := ⟨by decide +kernel, rfl⟩
theorem dX7_readText_68 : Db cX7_readText 68 .goto 71 7 := ⟨-61, by decide +kernel, rfl, rfl⟩
theorem dX7_readText_71 : Dc cX7_readText 71 (.aload_n 0) 1 72 := ⟨by decide +kernel, rfl⟩
theorem dX7_readText_72 : Dc cX7_readText 72 (.getfield 115) 3 75 := ⟨by decide +kernel, rfl⟩
theorem dX7_readText_75 : Dc cX7_readText 75 (.aload_n 0) 1 76 := ⟨by decide +kernel, rfl⟩
theorem dX7_readText_76 : Dc cX7_readText 76 (.getfield 112) 3 79 := ⟨by decide +kernel, rfl⟩
theorem dX7_readText_79 : Db cX7_readText 79 (fun o => .if_icmp .ne o) 82 86 := ⟨7, by decide +kernel, rfl, rfl⟩
theorem dX7_readText_82 : Dc cX7_readText 82 (.iconst 1) 1 83 := ⟨by decide +kernel, rfl⟩
theorem dX7_readText_83 : Db cX7_readText 83 .goto 86 87 := ⟨4, by decide +kernel, rfl, rfl⟩
theorem dX7_readText_86 : Dc cX7_readText 86 (.iconst 0) 1 87 := ⟨by decide +kernel, rfl⟩
theorem dX7_readText_87 : Dc cX7_readText 87 (.ireturn) 1 88 := ⟨by decide +kernel, rfl⟩
theorem dX7_perform_0 : Dc cX7_perform 0 (.aload_n 0) 1 1 := ⟨by decide +kernel, rfl⟩
theorem dX7_perform_1 : Dc cX7_perform 1 (.iconst 0) 1 2 := ⟨by decide +kernel, rfl⟩
theorem dX7_perform_2 : Dc cX7_perform 2 (.invokevirtual 138) 3 5 := ⟨by decide +kernel, rfl⟩
theorem dX7_perform_5 : Db cX7_perform 5 (fun o => .ifCond .ne o) 8 16 := ⟨11, by decide +kernel, rfl, rfl⟩
theorem dX7_perform_8 : Dc cX7_perform 8 (.bipush (-100)) 2 10 := ⟨by decide +kernel, rfl⟩
theorem dX7_perform_10 : Dc cX7_perform 10 (.aload_n 0) 1 11 := ⟨by decide +kernel, rfl⟩
theorem dX7_perform_11 : Dc cX7_perform 11 (.getfield 115) 3 14 := ⟨by decide +kernel, rfl⟩
theorem dX7_perform_14 : Dc cX7_perform 14 (.isub) 1 15 := ⟨by decide +kernel, rfl⟩
theorem dX7_perform_15 : Dc cX7_perform 15 (.ireturn) 1 16 := ⟨by decide +kernel, rfl⟩
theorem dX7_perform_16 : Dc cX7_perform 16 (.aload_n 0) 1 17 := ⟨by decide +kernel, rfl⟩
theorem dX7_perform_17 : Dc cX7_perform 17 (.getfield 7) 3 20 := ⟨by decide +kernel, rfl⟩
theorem dX7_perform_20 : Dc cX7_perform 20 (.bipush 32) 2 22 := ⟨by decide +kernel, rfl⟩
theorem dX7_perform_22 : Dc cX7_perform 22 (.iaload) 1 23 := ⟨by decide +kernel, rfl⟩
theorem dX7_perform_23 : Dc cX7_perform 23 (.iconst 1) 1 24 := ⟨by decide +kernel, rfl⟩
theorem dX7_perform_24 : Db cX7_perform 24 (fun o => .if_icmp .ne o) 27 30 := ⟨6, by decide +kernel, rfl, rfl⟩
theorem dX7_perform_27 : Dc cX7_perform 27 (.bipush (-4)) 2 29 := ⟨by decide +kernel, rfl⟩
theorem dX7_perform_29 : Dc cX7_perform 29 (.ireturn) 1 30 := ⟨by decide +kernel, rfl⟩
theorem dX7_perform_30 : Dc cX7_perform 30 (.aload_n 0) 1 31 := ⟨by decide +kernel, rfl⟩
theorem dX7_perform_31 : Dc cX7_perform 31 (.invokevirtual 53) 3 34 := ⟨by decide +kernel, rfl⟩
theorem dX7_perform_34 : Dc cX7_perform 34 (.aload_n 0) 1 35 := ⟨by decide +kernel, rfl⟩
theorem dX7_perform_35 : Dc cX7_perform 35 (.getfield 7) 3 38 := ⟨by decide +kernel, rfl⟩
theorem dX7_perform_38 : Dc cX7_perform 38 (.bipush 34) 2 40 := ⟨by decide +kernel, rfl⟩
theorem dX7_perform_40 : Dc cX7_perform 40 (.iaload) 1 41 := ⟨by decide +kernel, rfl⟩
theorem dX7_perform_41 : Dc cX7_perform 41 (.istore_n 1) 1 42 := ⟨by decide +kernel, rfl⟩
theorem dX7_perform_42 : Dc cX7_perform 42 (.aload_n 0) 1 43 := ⟨by decide +kernel, rfl⟩
theorem dX7_perform_43 : Dc cX7_perform 43 (.iconst 1) 1 44 := ⟨by decide +kernel, rfl⟩
theorem dX7_perform_44 : Dc cX7_perform 44 (.invokevirtual 138) 3 47 := ⟨by decide +kernel, rfl⟩
theorem dX7_perform_47 : Dc cX7_perform 47 (.pop) 1 48 := ⟨by decide +kernel, rfl⟩
theorem dX7_perform_48 : Dc cX7_perform 48 (.aload_n 0) 1 49 := ⟨by decide +kernel, rfl⟩
theorem dX7_perform_49 : Dc cX7_perform 49 (.getfield 7) 3 52 := ⟨by decide +kernel, rfl⟩
theorem dX7_perform_52 : Dc cX7_perform 52 (.bipush 34) 2 54 := ⟨by decide +kernel, rfl⟩
theorem dX7_perform_54 : Dc cX7_perform 54 (.iaload) 1 55 := ⟨by decide +kernel, rfl⟩
theorem dX7_perform_55 : Dc cX7_perform 55 (.iload_n 1) 1 56 := ⟨by decide +kernel, rfl⟩
theorem dX7_perform_56 : Dc cX7_perform 56 (.isub) 1 57 := ⟨by decide +kernel, rfl⟩
theorem dX7_perform_57 : Dc cX7_perform 57 (.ireturn) 1 58 := ⟨by decide +kernel, rfl⟩
theorem dX7_cell_0 : Dc cX7_cell 0 (.iload_n 1) 1 1 := ⟨by decide +kernel, rfl⟩
theorem dX7_cell_1 : Dc cX7_cell 1 (.iconst 0) 1 2 := ⟨by decide +kernel, rfl⟩
theorem dX7_cell_2 : Dc cX7_cell 2 (.bipush 29) 2 4 := ⟨by decide +kernel, rfl⟩
theorem dX7_cell_4 : Dc cX7_cell 4 (.invokestatic 37) 3 7 := ⟨by decide +kernel, rfl⟩
theorem dX7_cell_7 : Db cX7_cell 7 (fun o => .ifCond .eq o) 10 19 := ⟨12, by decide +kernel, rfl, rfl⟩
theorem dX7_cell_10 : Dc cX7_cell 10 (.aload_n 0) 1 11 := ⟨by decide +kernel, rfl⟩
theorem dX7_cell_11 : Dc cX7_cell 11 (.getfield 7) 3 14 := ⟨by decide +kernel, rfl⟩
theorem dX7_cell_14 : Dc cX7_cell 14 (.iload_n 1) 1 15 := ⟨by decide +kernel, rfl⟩
theorem dX7_cell_15 : Dc cX7_cell 15 (.iaload) 1 16 := ⟨by decide +kernel, rfl⟩
theorem dX7_cell_16 : Db cX7_cell 16 .goto 19 20 := ⟨4, by decide +kernel, rfl, rfl⟩
theorem dX7_cell_19 : Dc cX7_cell 19 (.iconst (-1)) 1 20 := ⟨by decide +kernel, rfl⟩
theorem dX7_cell_20 : Dc cX7_cell 20 (.ireturn) 1 21 := ⟨by decide +kernel, rfl⟩
theorem dX7_ofTry_0 : Dc cX7_ofTry 0 (.aload_n 0) 1 1 := ⟨by decide +kernel, rfl⟩
theorem dX7_ofTry_1 : Dc cX7_ofTry 1 (.iload_n 1) 1 2 := ⟨by decide +kernel, rfl⟩
theorem dX7_ofTry_2 : Dc cX7_ofTry 2 (.invokevirtual 67) 3 5 := ⟨by decide +kernel, rfl⟩
theorem dX7_ofTry_5 : Db cX7_ofTry 5 (fun o => .ifCond .ne o) 8 30 := ⟨25, by decide +kernel, rfl, rfl⟩
theorem dX7_ofTry_8 : Dc cX7_ofTry 8 (.aload_n 0) 1 9 := ⟨by decide +kernel, rfl⟩
theorem dX7_ofTry_9 : Dc cX7_ofTry 9 (.getfield 7) 3 12 := ⟨by decide +kernel, rfl⟩
theorem dX7_ofTry_12 : Dc cX7_ofTry 12 (.bipush 32) 2 14 := ⟨by decide +kernel, rfl⟩
theorem dX7_ofTry_14 : Dc cX7_ofTry 14 (.iaload) 1 15 := ⟨by decide +kernel, rfl⟩
theorem dX7_ofTry_15 : Dc cX7_ofTry 15 (.iconst 1) 1 16 := ⟨by decide +kernel, rfl⟩
theorem dX7_ofTry_16 : Db cX7_ofTry 16 (fun o => .if_icmp .ne o) 19 34 := ⟨18, by decide +kernel, rfl, rfl⟩
theorem dX7_ofTry_19 : Dc cX7_ofTry 19 (.iload_n 1) 1 20 := ⟨by decide +kernel, rfl⟩
theorem dX7_ofTry_20 : Dc cX7_ofTry 20 (.aload_n 0) 1 21 := ⟨by decide +kernel, rfl⟩
theorem dX7_ofTry_21 : Dc cX7_ofTry 21 (.getfield 7) 3 24 := ⟨by decide +kernel, rfl⟩
theorem dX7_ofTry_24 : Dc cX7_ofTry 24 (.bipush 31) 2 26 := ⟨by decide +kernel, rfl⟩
theorem dX7_ofTry_26 : Dc cX7_ofTry 26 (.iaload) 1 27 := ⟨by decide +kernel, rfl⟩
theorem dX7_ofTry_27 : Db cX7_ofTry 27 (fun o => .if_icmp .ne o) 30 34 := ⟨7, by decide +kernel, rfl, rfl⟩
theorem dX7_ofTry_30 : Dc cX7_ofTry 30 (.iconst 1) 1 31 := ⟨by decide +kernel, rfl⟩
theorem dX7_ofTry_31 : Db cX7_ofTry 31 .goto 34 35 := ⟨4, by decide +kernel, rfl, rfl⟩
theorem dX7_ofTry_34 : Dc cX7_ofTry 34 (.iconst 0) 1 35 := ⟨by decide +kernel, rfl⟩
theorem dX7_ofTry_35 : Dc cX7_ofTry 35 (.istore 4) 2 37 := ⟨by decide +kernel, rfl⟩
theorem dX7_ofTry_37 : Dc cX7_ofTry 37 (.iload 4) 2 39 := ⟨by decide +kernel, rfl⟩
theorem dX7_ofTry_39 : Db cX7_ofTry 39 (fun o => .ifCond .eq o) 42 57 := ⟨18, by decide +kernel, rfl, rfl⟩
theorem dX7_ofTry_42 : Dc cX7_ofTry 42 (.iload_n 2) 1 43 := ⟨by decide +kernel, rfl⟩
theorem dX7_ofTry_43 : Dc cX7_ofTry 43 (.iconst 0) 1 44 := ⟨by decide +kernel, rfl⟩
theorem dX7_ofTry_44 : Dc cX7_ofTry 44 (.aload_n 0) 1 45 := ⟨by decide +kernel, rfl⟩
theorem dX7_ofTry_45 : Dc cX7_ofTry 45 (.iload_n 1) 1 46 := ⟨by decide +kernel, rfl⟩
theorem dX7_ofTry_46 : Dc cX7_ofTry 46 (.invokevirtual 60) 3 49 := ⟨by decide +kernel, rfl⟩
theorem dX7_ofTry_49 : Dc cX7_ofTry 49 (.iconst 1) 1 50 := ⟨by decide +kernel, rfl⟩
theorem dX7_ofTry_50 : Dc cX7_ofTry 50 (.isub) 1 51 := ⟨by decide +kernel, rfl⟩
theorem dX7_ofTry_51 : Dc cX7_ofTry 51 (.invokestatic 37) 3 54 := ⟨by decide +kernel, rfl⟩
theorem dX7_ofTry_54 : Db cX7_ofTry 54 (fun o => .ifCond .ne o) 57 59 := ⟨5, by decide +kernel, rfl, rfl⟩
theorem dX7_ofTry_57 : Dc cX7_ofTry 57 (.iconst (-1)) 1 58 := ⟨by decide +kernel, rfl⟩
theorem dX7_ofTry_58 : Dc cX7_ofTry 58 (.ireturn) 1 59 := ⟨by decide +kernel, rfl⟩
theorem dX7_ofTry_59 : Dc cX7_ofTry 59 (.iload_n 3) 1 60 := ⟨by decide +kernel, rfl⟩
theorem dX7_ofTry_60 : Db cX7_ofTry 60 (fun o => .ifCond .ne o) 63 72 := ⟨12, by decide +kernel, rfl, rfl⟩
theorem dX7_ofTry_63 : Dc cX7_ofTry 63 (.aload_n 0) 1 64 := ⟨by decide +kernel, rfl⟩
theorem dX7_ofTry_64 : Dc cX7_ofTry 64 (.iload_n 1) 1 65 := ⟨by decide +kernel, rfl⟩
theorem dX7_ofTry_65 : Dc cX7_ofTry 65 (.iload_n 2) 1 66 := ⟨by decide +kernel, rfl⟩
theorem dX7_ofTry_66 : Dc cX7_ofTry 66 (.invokevirtual 71) 3 69 := ⟨by decide +kernel, rfl⟩
theorem dX7_ofTry_69 : Db cX7_ofTry 69 .goto 72 88 := ⟨19, by decide +kernel, rfl, rfl⟩
theorem dX7_ofTry_72 : Dc cX7_ofTry 72 (.iload_n 3) 1 73 := ⟨by decide +kernel, rfl⟩
theorem dX7_ofTry_73 : Dc cX7_ofTry 73 (.iconst 1) 1 74 := ⟨by decide +kernel, rfl⟩
theorem dX7_ofTry_74 : Db cX7_ofTry 74 (fun o => .if_icmp .ne o) 77 86 := ⟨12, by decide +kernel, rfl, rfl⟩
theorem dX7_ofTry_77 : Dc cX7_ofTry 77 (.aload_n 0) 1 78 := ⟨by decide +kernel, rfl⟩
theorem dX7_ofTry_78 : Dc cX7_ofTry 78 (.iload_n 1) 1 79 := ⟨by decide +kernel, rfl⟩
theorem dX7_ofTry_79 : Dc cX7_ofTry 79 (.iload_n 2) 1 80 := ⟨by decide +kernel, rfl⟩
theorem dX7_ofTry_80 : Dc cX7_ofTry 80 (.invokevirtual 75) 3 83 := ⟨by decide +kernel, rfl⟩
theorem dX7_ofTry_83 : Db cX7_ofTry 83 .goto 86 88 := ⟨5, by decide +kernel, rfl, rfl⟩
theorem dX7_ofTry_86 : Dc cX7_ofTry 86 (.bipush (-2)) 2 88 := ⟨by decide +kernel, rfl⟩
theorem dX7_ofTry_88 : Dc cX7_ofTry 88 (.ireturn) 1 89 := ⟨by decide +kernel, rfl⟩
theorem dX7_ofLoop_0 : Dc cX7_ofLoop 0 (.aload_n 0) 1 1 := ⟨by decide +kernel, rfl⟩
theorem dX7_ofLoop_1 : Dc cX7_ofLoop 1 (.iload_n 1) 1 2 := ⟨by decide +kernel, rfl⟩
theorem dX7_ofLoop_2 : Dc cX7_ofLoop 2 (.invokevirtual 92) 3 5 := ⟨by decide +kernel, rfl⟩
theorem dX7_ofLoop_5 : Db cX7_ofLoop 5 (fun o => .ifCond .eq o) 8 31 := ⟨26, by decide +kernel, rfl, rfl⟩
theorem dX7_ofLoop_8 : Dc cX7_ofLoop 8 (.iload_n 2) 1 9 := ⟨by decide +kernel, rfl⟩
theorem dX7_ofLoop_9 : Dc cX7_ofLoop 9 (.iconst 0) 1 10 := ⟨by decide +kernel, rfl⟩
theorem dX7_ofLoop_10 : Dc cX7_ofLoop 10 (.aload_n 0) 1 11 := ⟨by decide +kernel, rfl⟩
theorem dX7_ofLoop_11 : Dc cX7_ofLoop 11 (.getfield 7) 3 14 := ⟨by decide +kernel, rfl⟩
theorem dX7_ofLoop_14 : Dc cX7_ofLoop 14 (.sipush 213) 3 17 := ⟨by decide +kernel, rfl⟩
theorem dX7_ofLoop_17 : Dc cX7_ofLoop 17 (.bipush 38) 2 19 := ⟨by decide +kernel, rfl⟩
theorem dX7_ofLoop_19 : Dc cX7_ofLoop 19 (.iload_n 1) 1 20 := ⟨by decide +kernel, rfl⟩
theorem dX7_ofLoop_20 : Dc cX7_ofLoop 20 (.imul) 1 21 := ⟨by decide +kernel, rfl⟩
theorem dX7_ofLoop_21 : Dc cX7_ofLoop 21 (.iadd) 1 22 := ⟨by decide +kernel, rfl⟩
theorem dX7_ofLoop_22 : Dc cX7_ofLoop 22 (.iaload) 1 23 := ⟨by decide +kernel, rfl⟩
theorem dX7_ofLoop_23 : Dc cX7_ofLoop 23 (.iconst 1) 1 24 := ⟨by decide +kernel, rfl⟩
theorem dX7_ofLoop_24 : Dc cX7_ofLoop 24 (.isub) 1 25 := ⟨by decide +kernel, rfl⟩
theorem dX7_ofLoop_25 : Dc cX7_ofLoop 25 (.invokestatic 37) 3 28 := ⟨by decide +kernel, rfl⟩
theorem dX7_ofLoop_28 : Db cX7_ofLoop 28 (fun o => .ifCond .ne o) 31 33 := ⟨5, by decide +kernel, rfl, rfl⟩
theorem dX7_ofLoop_31 : Dc cX7_ofLoop 31 (.iconst (-1)) 1 32 := ⟨by decide +kernel, rfl⟩
theorem dX7_ofLoop_32 : Dc cX7_ofLoop 32 (.ireturn) 1 33 := ⟨by decide +kernel, rfl⟩
theorem dX7_ofLoop_33 : Dc cX7_ofLoop 33 (.sipush 213) 3 36 := ⟨by decide +kernel, rfl⟩
theorem dX7_ofLoop_36 : Dc cX7_ofLoop 36 (.bipush 38) 2 38 := ⟨by decide +kernel, rfl⟩
theorem dX7_ofLoop_38 : Dc cX7_ofLoop 38 (.iload_n 1) 1 39 := ⟨by decide +kernel, rfl⟩
theorem dX7_ofLoop_39 : Dc cX7_ofLoop 39 (.imul) 1 40 := ⟨by decide +kernel, rfl⟩
theorem dX7_ofLoop_40 : Dc cX7_ofLoop 40 (.iadd) 1 41 := ⟨by decide +kernel, rfl⟩
theorem dX7_ofLoop_41 : Dc cX7_ofLoop 41 (.iconst 2) 1 42 := ⟨by decide +kernel, rfl⟩
theorem dX7_ofLoop_42 : Dc cX7_ofLoop 42 (.iadd) 1 43 := ⟨by decide +kernel, rfl⟩
theorem dX7_ofLoop_43 : Dc cX7_ofLoop 43 (.iconst 3) 1 44 := ⟨by decide +kernel, rfl⟩
theorem dX7_ofLoop_44 : Dc cX7_ofLoop 44 (.iload_n 2) 1 45 := ⟨by decide +kernel, rfl⟩
theorem dX7_ofLoop_45 : Dc cX7_ofLoop 45 (.imul) 1 46 := ⟨by decide +kernel, rfl⟩
theorem dX7_ofLoop_46 : Dc cX7_ofLoop 46 (.iadd) 1 47 := ⟨by decide +kernel, rfl⟩
theorem dX7_ofLoop_47 : Dc cX7_ofLoop 47 (.istore 4) 2 49 := ⟨by decide +kernel, rfl⟩
theorem dX7_ofLoop_49 : Dc cX7_ofLoop 49 (.iload_n 3) 1 50 := ⟨by decide +kernel, rfl⟩
theorem dX7_ofLoop_50 : decode cX7_ofLoop 50 = .ok (.tableswitch 96 0 3 #[30, 30, 40, 54], 30) := by decide +kernel
theorem dX7_ofLoop_80 : Dc cX7_ofLoop 80 (.aload_n 0) 1 81 := ⟨by decide +kernel, rfl⟩
theorem dX7_ofLoop_81 : Dc cX7_ofLoop 81 (.getfield 7) 3 84 := ⟨by decide +kernel, rfl⟩
theorem dX7_ofLoop_84 : Dc cX7_ofLoop 84 (.iload 4) 2 86 := ⟨by decide +kernel, rfl⟩
theorem dX7_ofLoop_86 : Dc cX7_ofLoop 86 (.iload_n 3) 1 87 := ⟨by decide +kernel, rfl⟩
theorem dX7_ofLoop_87 : Dc cX7_ofLoop 87 (.iadd) 1 88 := ⟨by decide +kernel, rfl⟩
theorem dX7_ofLoop_88 : Dc cX7_ofLoop 88 (.iaload) 1 89 := ⟨by decide +kernel, rfl⟩
theorem dX7_ofLoop_89 : Dc cX7_ofLoop 89 (.ireturn) 1 90 := ⟨by decide +kernel, rfl⟩
theorem dX7_ofLoop_90 : Dc cX7_ofLoop 90 (.aload_n 0) 1 91 := ⟨by decide +kernel, rfl⟩
theorem dX7_ofLoop_91 : Dc cX7_ofLoop 91 (.getfield 7) 3 94 := ⟨by decide +kernel, rfl⟩
theorem dX7_ofLoop_94 : Dc cX7_ofLoop 94 (.iload 4) 2 96 := ⟨by decide +kernel, rfl⟩
theorem dX7_ofLoop_96 : Dc cX7_ofLoop 96 (.iconst 2) 1 97 := ⟨by decide +kernel, rfl⟩
theorem dX7_ofLoop_97 : Dc cX7_ofLoop 97 (.iadd) 1 98 := ⟨by decide +kernel, rfl⟩
theorem dX7_ofLoop_98 : Dc cX7_ofLoop 98 (.iaload) 1 99 := ⟨by decide +kernel, rfl⟩
theorem dX7_ofLoop_99 : Dc cX7_ofLoop 99 (.sipush 1000) 3 102 := ⟨by decide +kernel, rfl⟩
theorem dX7_ofLoop_102 : Dc cX7_ofLoop 102 (.iadd) 1 103 := ⟨by decide +kernel, rfl⟩
theorem dX7_ofLoop_103 : Dc cX7_ofLoop 103 (.ireturn) 1 104 := ⟨by decide +kernel, rfl⟩
theorem dX7_ofLoop_104 : Dc cX7_ofLoop 104 (.aload_n 0) 1 105 := ⟨by decide +kernel, rfl⟩
theorem dX7_ofLoop_105 : Dc cX7_ofLoop 105 (.getfield 7) 3 108 := ⟨by decide +kernel, rfl⟩
theorem dX7_ofLoop_108 : Dc cX7_ofLoop 108 (.iload 4) 2 110 := ⟨by decide +kernel, rfl⟩
theorem dX7_ofLoop_110 : Dc cX7_ofLoop 110 (.iconst 1) 1 111 := ⟨by decide +kernel, rfl⟩
theorem dX7_ofLoop_111 : Dc cX7_ofLoop 111 (.iadd) 1 112 := ⟨by decide +kernel, rfl⟩
theorem dX7_ofLoop_112 : Dc cX7_ofLoop 112 (.iaload) 1 113 := ⟨by decide +kernel, rfl⟩
theorem dX7_ofLoop_113 : Dc cX7_ofLoop 113 (.aload_n 0) 1 114 := ⟨by decide +kernel, rfl⟩
theorem dX7_ofLoop_114 : Dc cX7_ofLoop 114 (.getfield 7) 3 117 := ⟨by decide +kernel, rfl⟩
theorem dX7_ofLoop_117 : Dc cX7_ofLoop 117 (.sipush 213) 3 120 := ⟨by decide +kernel, rfl⟩
theorem dX7_ofLoop_120 : Dc cX7_ofLoop 120 (.bipush 38) 2 122 := ⟨by decide +kernel, rfl⟩
theorem dX7_ofLoop_122 : Dc cX7_ofLoop 122 (.iload_n 1) 1 123 := ⟨by decide +kernel, rfl⟩
theorem dX7_ofLoop_123 : Dc cX7_ofLoop 123 (.imul) 1 124 := ⟨by decide +kernel, rfl⟩
theorem dX7_ofLoop_124 : Dc cX7_ofLoop 124 (.iadd) 1 125 := ⟨by decide +kernel, rfl⟩
theorem dX7_ofLoop_125 : Dc cX7_ofLoop 125 (.iconst 1) 1 126 := ⟨by decide +kernel, rfl⟩
theorem dX7_ofLoop_126 : Dc cX7_ofLoop 126 (.iadd) 1 127 := ⟨by decide +kernel, rfl⟩
theorem dX7_ofLoop_127 : Dc cX7_ofLoop 127 (.iaload) 1 128 := ⟨by decide +kernel, rfl⟩
theorem dX7_ofLoop_128 : Dc cX7_ofLoop 128 (.iconst 1) 1 129 := ⟨by decide +kernel, rfl⟩
theorem dX7_ofLoop_129 : Dc cX7_ofLoop 129 (.isub) 1 130 := ⟨by decide +kernel, rfl⟩
theorem dX7_ofLoop_130 : Dc cX7_ofLoop 130 (.aload_n 0) 1 131 := ⟨by decide +kernel, rfl⟩
theorem dX7_ofLoop_131 : Dc cX7_ofLoop 131 (.getfield 7) 3 134 := ⟨by decide +kernel, rfl⟩
theorem dX7_ofLoop_134 : Dc cX7_ofLoop 134 (.iload 4) 2 136 := ⟨by decide +kernel, rfl⟩
theorem dX7_ofLoop_136 : Dc cX7_ofLoop 136 (.iconst 2) 1 137 := ⟨by decide +kernel, rfl⟩
theorem dX7_ofLoop_137 : Dc cX7_ofLoop 137 (.iadd) 1 138 := ⟨by decide +kernel, rfl⟩
theorem dX7_ofLoop_138 : Dc cX7_ofLoop 138 (.iaload) 1 139 := ⟨by decide +kernel, rfl⟩
theorem dX7_ofLoop_139 : Dc cX7_ofLoop 139 (.imul) 1 140 := ⟨by decide +kernel, rfl⟩
theorem dX7_ofLoop_140 : Dc cX7_ofLoop 140 (.iadd) 1 141 := ⟨by decide +kernel, rfl⟩
theorem dX7_ofLoop_141 : Dc cX7_ofLoop 141 (.sipush 10000) 3 144 := ⟨by decide +kernel, rfl⟩
theorem dX7_ofLoop_144 : Dc cX7_ofLoop 144 (.iadd) 1 145 := ⟨by decide +kernel, rfl⟩
theorem dX7_ofLoop_145 : Dc cX7_ofLoop 145 (.ireturn) 1 146 := ⟨by decide +kernel, rfl⟩
theorem dX7_ofLoop_146 : Dc cX7_ofLoop 146 (.bipush (-2)) 2 148 := ⟨by decide +kernel, rfl⟩
theorem dX7_ofLoop_148 : Dc cX7_ofLoop 148 (.ireturn) 1 149 := ⟨by decide +kernel, rfl⟩
theorem dX7_length_0 : Dc cX7_length 0 (.iload_n 2) 1 1 := ⟨by decide +kernel, rfl⟩
theorem dX7_length_1 : Dc cX7_length 1 (.iconst 0) 1 2 := ⟨by decide +kernel, rfl⟩
theorem dX7_length_2 : Dc cX7_length 2 (.iconst 2) 1 3 := ⟨by decide +kernel, rfl⟩
theorem dX7_length_3 : Dc cX7_length 3 (.invokestatic 37) 3 6 := ⟨by decide +kernel, rfl⟩
theorem dX7_length_6 : Db cX7_length 6 (fun o => .ifCond .ne o) 9 12 := ⟨6, by decide +kernel, rfl, rfl⟩
theorem dX7_length_9 : Dc cX7_length 9 (.bipush (-2)) 2 11 := ⟨by decide +kernel, rfl⟩
theorem dX7_length_11 : Dc cX7_length 11 (.ireturn) 1 12 := ⟨by decide +kernel, rfl⟩
theorem dX7_length_12 : Dc cX7_length 12 (.iload_n 2) 1 13 := ⟨by decide +kernel, rfl⟩
theorem dX7_length_13 : Db cX7_length 13 (fun o => .ifCond .ne o) 16 24 := ⟨11, by decide +kernel, rfl, rfl⟩
theorem dX7_length_16 : Dc cX7_length 16 (.aload_n 0) 1 17 := ⟨by decide +kernel, rfl⟩
theorem dX7_length_17 : Dc cX7_length 17 (.iload_n 1) 1 18 := ⟨by decide +kernel, rfl⟩
theorem dX7_length_18 : Dc cX7_length 18 (.invokevirtual 67) 3 21 := ⟨by decide +kernel, rfl⟩
theorem dX7_length_21 : Db cX7_length 21 .goto 24 29 := ⟨8, by decide +kernel, rfl, rfl⟩
theorem dX7_length_24 : Dc cX7_length 24 (.aload_n 0) 1 25 := ⟨by decide +kernel, rfl⟩
theorem dX7_length_25 : Dc cX7_length 25 (.iload_n 1) 1 26 := ⟨by decide +kernel, rfl⟩
theorem dX7_length_26 : Dc cX7_length 26 (.invokevirtual 92) 3 29 := ⟨by decide +kernel, rfl⟩
theorem dX7_length_29 : Dc cX7_length 29 (.istore_n 3) 1 30 := ⟨by decide +kernel, rfl⟩
theorem dX7_length_30 : Dc cX7_length 30 (.iload_n 3) 1 31 := ⟨by decide +kernel, rfl⟩
theorem dX7_length_31 : Db cX7_length 31 (fun o => .ifCond .ne o) 34 38 := ⟨7, by decide +kernel, rfl, rfl⟩
theorem dX7_length_34 : Dc cX7_length 34 (.iconst (-1)) 1 35 := ⟨by decide +kernel, rfl⟩
theorem dX7_length_35 : Db cX7_length 35 .goto 38 67 := ⟨32, by decide +kernel, rfl, rfl⟩
theorem dX7_length_38 : Dc cX7_length 38 (.iload_n 2) 1 39 := ⟨by decide +kernel, rfl⟩
theorem dX7_length_39 : Db cX7_length 39 (fun o => .ifCond .ne o) 42 50 := ⟨11, by decide +kernel, rfl, rfl⟩
theorem dX7_length_42 : Dc cX7_length 42 (.aload_n 0) 1 43 := ⟨by decide +kernel, rfl⟩
theorem dX7_length_43 : Dc cX7_length 43 (.iload_n 1) 1 44 := ⟨by decide +kernel, rfl⟩
theorem dX7_length_44 : Dc cX7_length 44 (.invokevirtual 60) 3 47 := ⟨by decide +kernel, rfl⟩
theorem dX7_length_47 : Db cX7_length 47 .goto 50 67 := ⟨20, by decide +kernel, rfl, rfl⟩
theorem dX7_length_50 : Dc cX7_length 50 (.aload_n 0) 1 51 := ⟨by decide +kernel, rfl⟩
theorem dX7_length_51 : Dc cX7_length 51 (.getfield 7) 3 54 := ⟨by decide +kernel, rfl⟩
theorem dX7_length_54 : Dc cX7_length 54 (.sipush 213) 3 57 := ⟨by decide +kernel, rfl⟩
theorem dX7_length_57 : Dc cX7_length 57 (.bipush 38) 2 59 := ⟨by decide +kernel, rfl⟩
theorem dX7_length_59 : Dc cX7_length 59 (.iload_n 1) 1 60 := ⟨by decide +kernel, rfl⟩
theorem dX7_length_60 : Dc cX7_length 60 (.imul) 1 61 := ⟨by decide +kernel, rfl⟩
theorem dX7_length_61 : Dc cX7_length 61 (.iadd) 1 62 := ⟨by decide +kernel, rfl⟩
theorem dX7_length_62 : Dc cX7_length 62 (.iload_n 2) 1 63 := ⟨by decide +kernel, rfl⟩
theorem dX7_length_63 : Dc cX7_length 63 (.iadd) 1 64 := ⟨by decide +kernel, rfl⟩
theorem dX7_length_64 : Dc cX7_length 64 (.iconst 1) 1 65 := ⟨by decide +kernel, rfl⟩
theorem dX7_length_65 : Dc cX7_length 65 (.isub) 1 66 := ⟨by decide +kernel, rfl⟩
theorem dX7_length_66 : Dc cX7_length 66 (.iaload) 1 67 := ⟨by decide +kernel, rfl⟩
theorem dX7_length_67 : Dc cX7_length 67 (.ireturn) 1 68 := ⟨by decide +kernel, rfl⟩
theorem dX7_sum_0 : Dc cX7_sum 0 (.iconst 0) 1 1 := ⟨by decide +kernel, rfl⟩
theorem dX7_sum_1 : Dc cX7_sum 1 (.istore_n 1) 1 2 := ⟨by decide +kernel, rfl⟩
theorem dX7_sum_2 : Dc cX7_sum 2 (.iconst 0) 1 3 := ⟨by decide +kernel, rfl⟩
theorem dX7_sum_3 : Dc cX7_sum 3 (.istore_n 2) 1 4 := ⟨by decide +kernel, rfl⟩
theorem dX7_sum_4 : Dc cX7_sum 4 (.iload_n 2) 1 5 := ⟨by decide +kernel, rfl⟩
theorem dX7_sum_5 : Dc cX7_sum 5 (.bipush 30) 2 7 := ⟨by decide +kernel, rfl⟩
theorem dX7_sum_7 : Db cX7_sum 7 (fun o => .if_icmp .ge o) 10 25 := ⟨18, by decide +kernel, rfl, rfl⟩
theorem dX7_sum_10 : Dc cX7_sum 10 (.iload_n 1) 1 11 := ⟨by decide +kernel, rfl⟩
theorem dX7_sum_11 : Dc cX7_sum 11 (.aload_n 0) 1 12 := ⟨by decide +kernel, rfl⟩
theorem dX7_sum_12 : Dc cX7_sum 12 (.getfield 7) 3 15 := ⟨by decide +kernel, rfl⟩
theorem dX7_sum_15 : Dc cX7_sum 15 (.iload_n 2) 1 16 := ⟨by decide +kernel, rfl⟩
theorem dX7_sum_16 : Dc cX7_sum 16 (.iaload) 1 17 := ⟨by decide +kernel, rfl⟩
theorem dX7_sum_17 : Dc cX7_sum 17 (.iadd) 1 18 := ⟨by decide +kernel, rfl⟩
theorem dX7_sum_18 : Dc cX7_sum 18 (.istore_n 1) 1 19 := ⟨by decide +kernel, rfl⟩
theorem dX7_sum_19 : Dc cX7_sum 19 (.iinc 2 1) 3 22 := ⟨by decide +kernel, rfl⟩
theorem dX7_sum_22 : Db cX7_sum 22 .goto 25 4 := ⟨-18, by decide +kernel, rfl, rfl⟩
theorem dX7_sum_25 : Dc cX7_sum 25 (.iload_n 1) 1 26 := ⟨by decide +kernel, rfl⟩
theorem dX7_sum_26 : Dc cX7_sum 26 (.ireturn) 1 27 := ⟨by decide +kernel, rfl⟩
theorem dX7_rowsOfVerbs_0 : Dc cX7_rowsOfVerbs 0 (.iconst 0) 1 1 := ⟨by decide +kernel, rfl⟩
theorem dX7_rowsOfVerbs_1 : Dc cX7_rowsOfVerbs 1 (.istore_n 1) 1 2 := ⟨by decide +kernel, rfl⟩
theorem dX7_rowsOfVerbs_2 : Dc cX7_rowsOfVerbs 2 (.iconst 0) 1 3 := ⟨by decide +kernel, rfl⟩
theorem dX7_rowsOfVerbs_3 : Dc cX7_rowsOfVerbs 3 (.istore_n 2) 1 4 := ⟨by decide +kernel, rfl⟩
theorem dX7_rowsOfVerbs_4 : Dc cX7_rowsOfVerbs 4 (.iload_n 2) 1 5 := ⟨by decide +kernel, rfl⟩
theorem dX7_rowsOfVerbs_5 : Dc cX7_rowsOfVerbs 5 (.aload_n 0) 1 6 := ⟨by decide +kernel, rfl⟩
theorem dX7_rowsOfVerbs_6 : Dc cX7_rowsOfVerbs 6 (.getfield 7) 3 9 := ⟨by decide +kernel, rfl⟩
theorem dX7_rowsOfVerbs_9 : Dc cX7_rowsOfVerbs 9 (.bipush 31) 2 11 := ⟨by decide +kernel, rfl⟩
theorem dX7_rowsOfVerbs_11 : Dc cX7_rowsOfVerbs 11 (.iaload) 1 12 := ⟨by decide +kernel, rfl⟩
theorem dX7_rowsOfVerbs_12 : Db cX7_rowsOfVerbs 12 (fun o => .if_icmp .ge o) 15 70 := ⟨58, by decide +kernel, rfl, rfl⟩
theorem dX7_rowsOfVerbs_15 : Dc cX7_rowsOfVerbs 15 (.iconst 1) 1 16 := ⟨by decide +kernel, rfl⟩
theorem dX7_rowsOfVerbs_16 : Dc cX7_rowsOfVerbs 16 (.istore_n 3) 1 17 := ⟨by decide +kernel, rfl⟩
theorem dX7_rowsOfVerbs_17 : Dc cX7_rowsOfVerbs 17 (.iconst 0) 1 18 := ⟨by decide +kernel, rfl⟩
theorem dX7_rowsOfVerbs_18 : Dc cX7_rowsOfVerbs 18 (.istore 4) 2 20 := ⟨by decide +kernel, rfl⟩
theorem dX7_rowsOfVerbs_20 : Dc cX7_rowsOfVerbs 20 (.iload 4) 2 22 := ⟨by decide +kernel, rfl⟩
theorem dX7_rowsOfVerbs_22 : Dc cX7_rowsOfVerbs 22 (.iload_n 2) 1 23 := ⟨by decide +kernel, rfl⟩
theorem dX7_rowsOfVerbs_23 : Db cX7_rowsOfVerbs 23 (fun o => .if_icmp .ge o) 26 52 := ⟨29, by decide +kernel, rfl, rfl⟩
theorem dX7_rowsOfVerbs_26 : Dc cX7_rowsOfVerbs 26 (.iload_n 3) 1 27 := ⟨by decide +kernel, rfl⟩
theorem dX7_rowsOfVerbs_27 : Db cX7_rowsOfVerbs 27 (fun o => .ifCond .eq o) 30 44 := ⟨17, by decide +kernel, rfl, rfl⟩
theorem dX7_rowsOfVerbs_30 : Dc cX7_rowsOfVerbs 30 (.aload_n 0) 1 31 := ⟨by decide +kernel, rfl⟩
theorem dX7_rowsOfVerbs_31 : Dc cX7_rowsOfVerbs 31 (.iload_n 2) 1 32 := ⟨by decide +kernel, rfl⟩
theorem dX7_rowsOfVerbs_32 : Dc cX7_rowsOfVerbs 32 (.iload 4) 2 34 := ⟨by decide +kernel, rfl⟩
theorem dX7_rowsOfVerbs_34 : Dc cX7_rowsOfVerbs 34 (.invokevirtual 78) 3 37 := ⟨by decide +kernel, rfl⟩
theorem dX7_rowsOfVerbs_37 : Db cX7_rowsOfVerbs 37 (fun o => .ifCond .ne o) 40 44 := ⟨7, by decide +kernel, rfl, rfl⟩
theorem dX7_rowsOfVerbs_40 : Dc cX7_rowsOfVerbs 40 (.iconst 1) 1 41 := ⟨by decide +kernel, rfl⟩
theorem dX7_rowsOfVerbs_41 : Db cX7_rowsOfVerbs 41 .goto 44 45 := ⟨4, by decide +kernel, rfl, rfl⟩
theorem dX7_rowsOfVerbs_44 : Dc cX7_rowsOfVerbs 44 (.iconst 0) 1 45 := ⟨by decide +kernel, rfl⟩
theorem dX7_rowsOfVerbs_45 : Dc cX7_rowsOfVerbs 45 (.istore_n 3) 1 46 := ⟨by decide +kernel, rfl⟩
theorem dX7_rowsOfVerbs_46 : Dc cX7_rowsOfVerbs 46 (.iinc 4 1) 3 49 := ⟨by decide +kernel, rfl⟩
theorem dX7_rowsOfVerbs_49 : Db cX7_rowsOfVerbs 49 .goto 52 20 := ⟨-29, by decide +kernel, rfl, rfl⟩
theorem dX7_rowsOfVerbs_52 : Dc cX7_rowsOfVerbs 52 (.iload_n 1) 1 53 := ⟨by decide +kernel, rfl⟩
theorem dX7_rowsOfVerbs_53 : Dc cX7_rowsOfVerbs 53 (.iload_n 3) 1 54 := ⟨by decide +kernel, rfl⟩
theorem dX7_rowsOfVerbs_54 : Db cX7_rowsOfVerbs 54 (fun o => .ifCond .eq o) 57 61 := ⟨7, by decide +kernel, rfl, rfl⟩
theorem dX7_rowsOfVerbs_57 : Dc cX7_rowsOfVerbs 57 (.iconst 1) 1 58 := ⟨by decide +kernel, rfl⟩
theorem dX7_rowsOfVerbs_58 : Db cX7_rowsOfVerbs 58 .goto 61 62 := ⟨4, by decide +kernel, rfl, rfl⟩
theorem dX7_rowsOfVerbs_61 : Dc cX7_rowsOfVerbs 61 (.iconst 0) 1 62 := ⟨by decide +kernel, rfl⟩
theorem dX7_rowsOfVerbs_62 : Dc cX7_rowsOfVerbs 62 (.iadd) 1 63 := ⟨by decide +kernel, rfl⟩
theorem dX7_rowsOfVerbs_63 : Dc cX7_rowsOfVerbs 63 (.istore_n 1) 1 64 := ⟨by decide +kernel, rfl⟩
theorem dX7_rowsOfVerbs_64 : Dc cX7_rowsOfVerbs 64 (.iinc 2 1) 3 67 := ⟨by decide +kernel, rfl⟩
theorem dX7_rowsOfVerbs_67 : Db cX7_rowsOfVerbs 67 .goto 70 4 := ⟨-63, by decide +kernel, rfl, rfl⟩
theorem dX7_rowsOfVerbs_70 : Dc cX7_rowsOfVerbs 70 (.iload_n 1) 1 71 := ⟨by decide +kernel, rfl⟩
theorem dX7_rowsOfVerbs_71 : Dc cX7_rowsOfVerbs 71 (.ireturn) 1 72 := ⟨by decide +kernel, rfl⟩
theorem dX7_total_0 : Dc cX7_total 0 (.iload_n 1) 1 1 := ⟨by decide +kernel, rfl⟩
theorem dX7_total_1 : decode cX7_total 1 = .ok (.tableswitch 139 0 11 #[63, 71, 76, 84, 112, 112, 112, 112, 112, 124, 129, 134], 63) := by decide +kernel
theorem dX7_total_64 : Dc cX7_total 64 (.aload_n 0) 1 65 := ⟨by decide +kernel, rfl⟩
theorem dX7_total_65 : Dc cX7_total 65 (.getfield 7) 3 68 := ⟨by decide +kernel, rfl⟩
theorem dX7_total_68 : Dc cX7_total 68 (.bipush 30) 2 70 := ⟨by decide +kernel, rfl⟩
theorem dX7_total_70 : Dc cX7_total 70 (.iaload) 1 71 := ⟨by decide +kernel, rfl⟩
theorem dX7_total_71 : Dc cX7_total 71 (.ireturn) 1 72 := ⟨by decide +kernel, rfl⟩
theorem dX7_total_72 : Dc cX7_total 72 (.aload_n 0) 1 73 := ⟨by decide +kernel, rfl⟩
theorem dX7_total_73 : Dc cX7_total 73 (.invokevirtual 141) 3 76 := ⟨by decide +kernel, rfl⟩
theorem dX7_total_76 : Dc cX7_total 76 (.ireturn) 1 77 := ⟨by decide +kernel, rfl⟩
theorem dX7_total_77 : Dc cX7_total 77 (.aload_n 0) 1 78 := ⟨by decide +kernel, rfl⟩
theorem dX7_total_78 : Dc cX7_total 78 (.getfield 7) 3 81 := ⟨by decide +kernel, rfl⟩
theorem dX7_total_81 : Dc cX7_total 81 (.bipush 31) 2 83 := ⟨by decide +kernel, rfl⟩
theorem dX7_total_83 : Dc cX7_total 83 (.iaload) 1 84 := ⟨by decide +kernel, rfl⟩
theorem dX7_total_84 : Dc cX7_total 84 (.ireturn) 1 85 := ⟨by decide +kernel, rfl⟩
theorem dX7_total_85 : Dc cX7_total 85 (.aload_n 0) 1 86 := ⟨by decide +kernel, rfl⟩
theorem dX7_total_86 : Dc cX7_total 86 (.getfield 7) 3 89 := ⟨by decide +kernel, rfl⟩
theorem dX7_total_89 : Dc cX7_total 89 (.bipush 32) 2 91 := ⟨by decide +kernel, rfl⟩
theorem dX7_total_91 : Dc cX7_total 91 (.iaload) 1 92 := ⟨by decide +kernel, rfl⟩
theorem dX7_total_92 : Dc cX7_total 92 (.iconst 1) 1 93 := ⟨by decide +kernel, rfl⟩
theorem dX7_total_93 : Db cX7_total 93 (fun o => .if_icmp .ne o) 96 110 := ⟨17, by decide +kernel, rfl, rfl⟩
theorem dX7_total_96 : Dc cX7_total 96 (.aload_n 0) 1 97 := ⟨by decide +kernel, rfl⟩
theorem dX7_total_97 : Dc cX7_total 97 (.aload_n 0) 1 98 := ⟨by decide +kernel, rfl⟩
theorem dX7_total_98 : Dc cX7_total 98 (.getfield 7) 3 101 := ⟨by decide +kernel, rfl⟩
theorem dX7_total_101 : Dc cX7_total 101 (.bipush 31) 2 103 := ⟨by decide +kernel, rfl⟩
theorem dX7_total_103 : Dc cX7_total 103 (.iaload) 1 104 := ⟨by decide +kernel, rfl⟩
theorem dX7_total_104 : Dc cX7_total 104 (.invokevirtual 60) 3 107 := ⟨by decide +kernel, rfl⟩
theorem dX7_total_107 : Db cX7_total 107 .goto 110 112 := ⟨5, by decide +kernel, rfl, rfl⟩
theorem dX7_total_110 : Dc cX7_total 110 (.bipush (-5)) 2 112 := ⟨by decide +kernel, rfl⟩
theorem dX7_total_112 : Dc cX7_total 112 (.ireturn) 1 113 := ⟨by decide +kernel, rfl⟩
theorem dX7_total_113 : Dc cX7_total 113 (.aload_n 0) 1 114 := ⟨by decide +kernel, rfl⟩
theorem dX7_total_114 : Dc cX7_total 114 (.getfield 7) 3 117 := ⟨by decide +kernel, rfl⟩
theorem dX7_total_117 : Dc cX7_total 117 (.bipush 33) 2 119 := ⟨by decide +kernel, rfl⟩
theorem dX7_total_119 : Dc cX7_total 119 (.iload_n 1) 1 120 := ⟨by decide +kernel, rfl⟩
theorem dX7_total_120 : Dc cX7_total 120 (.iadd) 1 121 := ⟨by decide +kernel, rfl⟩
theorem dX7_total_121 : Dc cX7_total 121 (.iconst 4) 1 122 := ⟨by decide +kernel, rfl⟩
theorem dX7_total_122 : Dc cX7_total 122 (.isub) 1 123 := ⟨by decide +kernel, rfl⟩
theorem dX7_total_123 : Dc cX7_total 123 (.iaload) 1 124 := ⟨by decide +kernel, rfl⟩
theorem dX7_total_124 : Dc cX7_total 124 (.ireturn) 1 125 := ⟨by decide +kernel, rfl⟩
theorem dX7_total_125 : Dc cX7_total 125 (.aload_n 0) 1 126 := ⟨by decide +kernel, rfl⟩
theorem dX7_total_126 : Dc cX7_total 126 (.invokevirtual 144) 3 129 := ⟨by decide +kernel, rfl⟩
theorem dX7_total_129 : Dc cX7_total 129 (.ireturn) 1 130 := ⟨by decide +kernel, rfl⟩
theorem dX7_total_130 : Dc cX7_total 130 (.aload_n 0) 1 131 := ⟨by decide +kernel, rfl⟩
theorem dX7_total_131 : Dc cX7_total 131 (.getfield 41) 3 134 := ⟨by decide +kernel, rfl⟩
theorem dX7_total_134 : Dc cX7_total 134 (.ireturn) 1 135 := ⟨by decide +kernel, rfl⟩
theorem dX7_total_135 : Dc cX7_total 135 (.aload_n 0) 1 136 := ⟨by decide +kernel, rfl⟩
theorem dX7_total_136 : Dc cX7_total 136 (.getfield 112) 3 139 := ⟨by decide +kernel, rfl⟩
theorem dX7_total_139 : Dc cX7_total 139 (.ireturn) 1 140 := ⟨by decide +kernel, rfl⟩
theorem dX7_total_140 : Dc cX7_total 140 (.bipush (-2)) 2 142 := ⟨by decide +kernel, rfl⟩
theorem dX7_total_142 : Dc cX7_total 142 (.ireturn) 1 143 := ⟨by decide +kernel, rfl⟩
theorem dX7_alike_0 : Dc cX7_alike 0 (.aload_n 0) 1 1 := ⟨by decide +kernel, rfl⟩
theorem dX7_alike_1 : Dc cX7_alike 1 (.iload_n 1) 1 2 := ⟨by decide +kernel, rfl⟩
theorem dX7_alike_2 : Dc cX7_alike 2 (.invokevirtual 67) 3 5 := ⟨by decide +kernel, rfl⟩
theorem dX7_alike_5 : Db cX7_alike 5 (fun o => .ifCond .eq o) 8 16 := ⟨11, by decide +kernel, rfl, rfl⟩
theorem dX7_alike_8 : Dc cX7_alike 8 (.aload_n 0) 1 9 := ⟨by decide +kernel, rfl⟩
theorem dX7_alike_9 : Dc cX7_alike 9 (.iload_n 2) 1 10 := ⟨by decide +kernel, rfl⟩
theorem dX7_alike_10 : Dc cX7_alike 10 (.invokevirtual 67) 3 13 := ⟨by decide +kernel, rfl⟩
theorem dX7_alike_13 : Db cX7_alike 13 (fun o => .ifCond .ne o) 16 18 := ⟨5, by decide +kernel, rfl, rfl⟩
theorem dX7_alike_16 : Dc cX7_alike 16 (.iconst (-1)) 1 17 := ⟨by decide +kernel, rfl⟩
theorem dX7_alike_17 : Dc cX7_alike 17 (.ireturn) 1 18 := ⟨by decide +kernel, rfl⟩
theorem dX7_alike_18 : Dc cX7_alike 18 (.iload_n 3) 1 19 := ⟨by decide +kernel, rfl⟩
theorem dX7_alike_19 : Dc cX7_alike 19 (.iconst 0) 1 20 := ⟨by decide +kernel, rfl⟩
theorem dX7_alike_20 : Dc cX7_alike 20 (.iconst 1) 1 21 := ⟨by decide +kernel, rfl⟩
theorem dX7_alike_21 : Dc cX7_alike 21 (.invokestatic 37) 3 24 := ⟨by decide +kernel, rfl⟩
theorem dX7_alike_24 : Db cX7_alike 24 (fun o => .ifCond .ne o) 27 30 := ⟨6, by decide +kernel, rfl, rfl⟩
theorem dX7_alike_27 : Dc cX7_alike 27 (.bipush (-2)) 2 29 := ⟨by decide +kernel, rfl⟩
theorem dX7_alike_29 : Dc cX7_alike 29 (.ireturn) 1 30 := ⟨by decide +kernel, rfl⟩
theorem dX7_alike_30 : Dc cX7_alike 30 (.iconst 0) 1 31 := ⟨by decide +kernel, rfl⟩
theorem dX7_alike_31 : Dc cX7_alike 31 (.istore 4) 2 33 := ⟨by decide +kernel, rfl⟩
theorem dX7_alike_33 : Dc cX7_alike 33 (.iload 4) 2 35 := ⟨by decide +kernel, rfl⟩
theorem dX7_alike_35 : Dc cX7_alike 35 (.aload_n 0) 1 36 := ⟨by decide +kernel, rfl⟩
theorem dX7_alike_36 : Dc cX7_alike 36 (.iload_n 1) 1 37 := ⟨by decide +kernel, rfl⟩
theorem dX7_alike_37 : Dc cX7_alike 37 (.invokevirtual 60) 3 40 := ⟨by decide +kernel, rfl⟩
theorem dX7_alike_40 : Db cX7_alike 40 (fun o => .if_icmp .gt o) 43 226 := ⟨186, by decide +kernel, rfl, rfl⟩
theorem dX7_alike_43 : Dc cX7_alike 43 (.iconst 0) 1 44 := ⟨by decide +kernel, rfl⟩
theorem dX7_alike_44 : Dc cX7_alike 44 (.istore 5) 2 46 := ⟨by decide +kernel, rfl⟩
theorem dX7_alike_46 : Dc cX7_alike 46 (.iload 5) 2 48 := ⟨by decide +kernel, rfl⟩
theorem dX7_alike_48 : Dc cX7_alike 48 (.aload_n 0) 1 49 := ⟨by decide +kernel, rfl⟩
theorem dX7_alike_49 : Dc cX7_alike 49 (.iload_n 2) 1 50 := ⟨by decide +kernel, rfl⟩
theorem dX7_alike_50 : Dc cX7_alike 50 (.invokevirtual 60) 3 53 := ⟨by decide +kernel, rfl⟩
theorem dX7_alike_53 : Db cX7_alike 53 (fun o => .if_icmp .gt o) 56 220 := ⟨167, by decide +kernel, rfl, rfl⟩
theorem dX7_alike_56 : Dc cX7_alike 56 (.iconst 0) 1 57 := ⟨by decide +kernel, rfl⟩
theorem dX7_alike_57 : Dc cX7_alike 57 (.istore 6) 2 59 := ⟨by decide +kernel, rfl⟩
theorem dX7_alike_59 : Dc cX7_alike 59 (.iload 4) 2 61 := ⟨by decide +kernel, rfl⟩
theorem dX7_alike_61 : Db cX7_alike 61 (fun o => .ifCond .le o) 64 199 := ⟨138, by decide +kernel, rfl, rfl⟩
theorem dX7_alike_64 : Dc cX7_alike 64 (.iload 5) 2 66 := ⟨by decide +kernel, rfl⟩
theorem dX7_alike_66 : Db cX7_alike 66 (fun o => .ifCond .le o) 69 199 := ⟨133, by decide +kernel, rfl, rfl⟩
theorem dX7_alike_69 : Dc cX7_alike 69 (.aload_n 0) 1 70 := ⟨by decide +kernel, rfl⟩
theorem dX7_alike_70 : Dc cX7_alike 70 (.iload_n 1) 1 71 := ⟨by decide +kernel, rfl⟩
theorem dX7_alike_71 : Dc cX7_alike 71 (.iload 4) 2 73 := ⟨by decide +kernel, rfl⟩
theorem dX7_alike_73 : Dc cX7_alike 73 (.iconst 1) 1 74 := ⟨by decide +kernel, rfl⟩
theorem dX7_alike_74 : Dc cX7_alike 74 (.isub) 1 75 := ⟨by decide +kernel, rfl⟩
theorem dX7_alike_75 : Dc cX7_alike 75 (.invokevirtual 71) 3 78 := ⟨by decide +kernel, rfl⟩
theorem dX7_alike_78 : Dc cX7_alike 78 (.aload_n 0) 1 79 := ⟨by decide +kernel, rfl⟩
theorem dX7_alike_79 : Dc cX7_alike 79 (.iload_n 2) 1 80 := ⟨by decide +kernel, rfl⟩
theorem dX7_alike_80 : Dc cX7_alike 80 (.iload 5) 2 82 := ⟨by decide +kernel, rfl⟩
theorem dX7_alike_82 : Dc cX7_alike 82 (.iconst 1) 1 83 := ⟨by decide +kernel, rfl⟩
theorem dX7_alike_83 : Dc cX7_alike 83 (.isub) 1 84 := ⟨by decide +kernel, rfl⟩
theorem dX7_alike_84 : Dc cX7_alike 84 (.invokevirtual 71) 3 87 := ⟨by decide +kernel, rfl⟩
theorem dX7_alike_87 : Db cX7_alike 87 (fun o => .if_icmp .ne o) 90 119 := ⟨32, by decide +kernel, rfl, rfl⟩
theorem dX7_alike_90 : Dc cX7_alike 90 (.iload_n 3) 1 91 := ⟨by decide +kernel, rfl⟩
theorem dX7_alike_91 : Db cX7_alike 91 (fun o => .ifCond .eq o) 94 115 := ⟨24, by decide +kernel, rfl, rfl⟩
theorem dX7_alike_94 : Dc cX7_alike 94 (.aload_n 0) 1 95 := ⟨by decide +kernel, rfl⟩
theorem dX7_alike_95 : Dc cX7_alike 95 (.iload_n 1) 1 96 := ⟨by decide +kernel, rfl⟩
theorem dX7_alike_96 : Dc cX7_alike 96 (.iload 4) 2 98 := ⟨by decide +kernel, rfl⟩
theorem dX7_alike_98 : Dc cX7_alike 98 (.iconst 1) 1 99 := ⟨by decide +kernel, rfl⟩
theorem dX7_alike_99 : Dc cX7_alike 99 (.isub) 1 100 := ⟨by decide +kernel, rfl⟩
theorem dX7_alike_100 : Dc cX7_alike 100 (.invokevirtual 75) 3 103 := ⟨by decide +kernel, rfl⟩
theorem dX7_alike_103 : Dc cX7_alike 103 (.aload_n 0) 1 104 := ⟨by decide +kernel, rfl⟩
theorem dX7_alike_104 : Dc cX7_alike 104 (.iload_n 2) 1 105 := ⟨by decide +kernel, rfl⟩
theorem dX7_alike_105 : Dc cX7_alike 105 (.iload 5) 2 107 := ⟨by decide +kernel, rfl⟩
theorem dX7_alike_107 : Dc cX7_alike 107 (.iconst 1) 1 108 := ⟨by decide +kernel, rfl⟩
theorem dX7_alike_108 : Dc cX7_alike 108 (.isub) 1 109 := ⟨by decide +kernel, rfl⟩
theorem dX7_alike_109 : Dc cX7_alike 109 (.invokevirtual 75) 3 112 := ⟨by decide +kernel, rfl⟩
theorem dX7_alike_112 : Db cX7_alike 112 (fun o => .if_icmp .ne o) 115 119 := ⟨7, by decide +kernel, rfl, rfl⟩
theorem dX7_alike_115 : Dc cX7_alike 115 (.iconst 1) 1 116 := ⟨by decide +kernel, rfl⟩
theorem dX7_alike_116 : Db cX7_alike 116 .goto 119 120 := ⟨4, by decide +kernel, rfl, rfl⟩
theorem dX7_alike_119 : Dc cX7_alike 119 (.iconst 0) 1 120 := ⟨by decide +kernel, rfl⟩
theorem dX7_alike_120 : Dc cX7_alike 120 (.istore 7) 2 122 := ⟨by decide +kernel, rfl⟩
theorem dX7_alike_122 : Dc cX7_alike 122 (.aload_n 0) 1 123 := ⟨by decide +kernel, rfl⟩
theorem dX7_alike_123 : Dc cX7_alike 123 (.getfield 34) 3 126 := ⟨by decide +kernel, rfl⟩
theorem dX7_alike_126 : Dc cX7_alike 126 (.bipush 13) 2 128 := ⟨by decide +kernel, rfl⟩
theorem dX7_alike_128 : Dc cX7_alike 128 (.iload 4) 2 130 := ⟨by decide +kernel, rfl⟩
theorem dX7_alike_130 : Dc cX7_alike 130 (.imul) 1 131 := ⟨by decide +kernel, rfl⟩
theorem dX7_alike_131 : Dc cX7_alike 131 (.iload 5) 2 133 := ⟨by decide +kernel, rfl⟩
theorem dX7_alike_133 : Dc cX7_alike 133 (.iadd) 1 134 := ⟨by decide +kernel, rfl⟩
theorem dX7_alike_134 : Dc cX7_alike 134 (.iconst 1) 1 135 := ⟨by decide +kernel, rfl⟩
theorem dX7_alike_135 : Dc cX7_alike 135 (.isub) 1 136 := ⟨by decide +kernel, rfl⟩
theorem dX7_alike_136 : Dc cX7_alike 136 (.iaload) 1 137 := ⟨by decide +kernel, rfl⟩
theorem dX7_alike_137 : Dc cX7_alike 137 (.istore 8) 2 139 := ⟨by decide +kernel, rfl⟩
theorem dX7_alike_139 : Dc cX7_alike 139 (.aload_n 0) 1 140 := ⟨by decide +kernel, rfl⟩
theorem dX7_alike_140 : Dc cX7_alike 140 (.getfield 34) 3 143 := ⟨by decide +kernel, rfl⟩
theorem dX7_alike_143 : Dc cX7_alike 143 (.bipush 13) 2 145 := ⟨by decide +kernel, rfl⟩
theorem dX7_alike_145 : Dc cX7_alike 145 (.iload 4) 2 147 := ⟨by decide +kernel, rfl⟩
theorem dX7_alike_147 : Dc cX7_alike 147 (.imul) 1 148 := ⟨by decide +kernel, rfl⟩
theorem dX7_alike_148 : Dc cX7_alike 148 (.bipush 13) 2 150 := ⟨by decide +kernel, rfl⟩
theorem dX7_alike_150 : Dc cX7_alike 150 (.isub) 1 151 := ⟨by decide +kernel, rfl⟩
theorem dX7_alike_151 : Dc cX7_alike 151 (.iload 5) 2 153 := ⟨by decide +kernel, rfl⟩
theorem dX7_alike_153 : Dc cX7_alike 153 (.iadd) 1 154 := ⟨by decide +kernel, rfl⟩
theorem dX7_alike_154 : Dc cX7_alike 154 (.iaload) 1 155 := ⟨by decide +kernel, rfl⟩
theorem dX7_alike_155 : Dc cX7_alike 155 (.istore 9) 2 157 := ⟨by decide +kernel, rfl⟩
theorem dX7_alike_157 : Dc cX7_alike 157 (.iload 7) 2 159 := ⟨by decide +kernel, rfl⟩
theorem dX7_alike_159 : Db cX7_alike 159 (fun o => .ifCond .eq o) 162 183 := ⟨24, by decide +kernel, rfl, rfl⟩
theorem dX7_alike_162 : Dc cX7_alike 162 (.aload_n 0) 1 163 := ⟨by decide +kernel, rfl⟩
theorem dX7_alike_163 : Dc cX7_alike 163 (.getfield 34) 3 166 := ⟨by decide +kernel, rfl⟩
theorem dX7_alike_166 : Dc cX7_alike 166 (.bipush 13) 2 168 := ⟨by decide +kernel, rfl⟩
theorem dX7_alike_168 : Dc cX7_alike 168 (.iload 4) 2 170 := ⟨by decide +kernel, rfl⟩
theorem dX7_alike_170 : Dc cX7_alike 170 (.imul) 1 171 := ⟨by decide +kernel, rfl⟩
theorem dX7_alike_171 : Dc cX7_alike 171 (.bipush 14) 2 173 := ⟨by decide +kernel, rfl⟩
theorem dX7_alike_173 : Dc cX7_alike 173 (.isub) 1 174 := ⟨by decide +kernel, rfl⟩
theorem dX7_alike_174 : Dc cX7_alike 174 (.iload 5) 2 176 := ⟨by decide +kernel, rfl⟩
theorem dX7_alike_176 : Dc cX7_alike 176 (.iadd) 1 177 := ⟨by decide +kernel, rfl⟩
theorem dX7_alike_177 : Dc cX7_alike 177 (.iaload) 1 178 := ⟨by decide +kernel, rfl⟩
theorem dX7_alike_178 : Dc cX7_alike 178 (.iconst 1) 1 179 := ⟨by decide +kernel, rfl⟩
theorem dX7_alike_179 : Dc cX7_alike 179 (.iadd) 1 180 := ⟨by decide +kernel, rfl⟩
theorem dX7_alike_180 : Db cX7_alike 180 .goto 183 197 := ⟨17, by decide +kernel, rfl, rfl⟩
theorem dX7_alike_183 : Dc cX7_alike 183 (.iload 8) 2 185 := ⟨by decide +kernel, rfl⟩
theorem dX7_alike_185 : Dc cX7_alike 185 (.iload 9) 2 187 := ⟨by decide +kernel, rfl⟩
theorem dX7_alike_187 : Db cX7_alike 187 (fun o => .if_icmp .le o) 190 195 := ⟨8, by decide +kernel, rfl, rfl⟩
theorem dX7_alike_190 : Dc cX7_alike 190 (.iload 8) 2 192 := ⟨by decide +kernel, rfl⟩
theorem dX7_alike_192 : Db cX7_alike 192 .goto 195 197 := ⟨5, by decide +kernel, rfl, rfl⟩
theorem dX7_alike_195 : Dc cX7_alike 195 (.iload 9) 2 197 := ⟨by decide +kernel, rfl⟩
theorem dX7_alike_197 : Dc cX7_alike 197 (.istore 6) 2 199 := ⟨by decide +kernel, rfl⟩
theorem dX7_alike_199 : Dc cX7_alike 199 (.aload_n 0) 1 200 := ⟨by decide +kernel, rfl⟩
theorem dX7_alike_200 : Dc cX7_alike 200 (.getfield 34) 3 203 := ⟨by decide +kernel, rfl⟩
theorem dX7_alike_203 : Dc cX7_alike 203 (.bipush 13) 2 205 := ⟨by decide +kernel, rfl⟩
theorem dX7_alike_205 : Dc cX7_alike 205 (.iload 4) 2 207 := ⟨by decide +kernel, rfl⟩
theorem dX7_alike_207 : Dc cX7_alike 207 (.imul) 1 208 := ⟨by decide +kernel, rfl⟩
theorem dX7_alike_208 : Dc cX7_alike 208 (.iload 5) 2 210 := ⟨by decide +kernel, rfl⟩
theorem dX7_alike_210 : Dc cX7_alike 210 (.iadd) 1 211 := ⟨by decide +kernel, rfl⟩
theorem dX7_alike_211 : Dc cX7_alike 211 (.iload 6) 2 213 := ⟨by decide +kernel, rfl⟩
theorem dX7_alike_213 : Dc cX7_alike 213 (.iastore) 1 214 := ⟨by decide +kernel, rfl⟩
theorem dX7_alike_214 : Dc cX7_alike 214 (.iinc 5 1) 3 217 := ⟨by decide +kernel, rfl⟩
theorem dX7_alike_217 : Db cX7_alike 217 .goto 220 46 := ⟨-171, by decide +kernel, rfl, rfl⟩
theorem dX7_alike_220 : Dc cX7_alike 220 (.iinc 4 1) 3 223 := ⟨by decide +kernel, rfl⟩
theorem dX7_alike_223 : Db cX7_alike 223 .goto 226 33 := ⟨-190, by decide +kernel, rfl, rfl⟩
theorem dX7_alike_226 : Dc cX7_alike 226 (.aload_n 0) 1 227 := ⟨by decide +kernel, rfl⟩
theorem dX7_alike_227 : Dc cX7_alike 227 (.getfield 34) 3 230 := ⟨by decide +kernel, rfl⟩
theorem dX7_alike_230 : Dc cX7_alike 230 (.bipush 13) 2 232 := ⟨by decide +kernel, rfl⟩
theorem dX7_alike_232 : Dc cX7_alike 232 (.aload_n 0) 1 233 := ⟨by decide +kernel, rfl⟩
theorem dX7_alike_233 : Dc cX7_alike 233 (.iload_n 1) 1 234 := ⟨by decide +kernel, rfl⟩
theorem dX7_alike_234 : Dc cX7_alike 234 (.invokevirtual 60) 3 237 := ⟨by decide +kernel, rfl⟩
theorem dX7_alike_237 : Dc cX7_alike 237 (.imul) 1 238 := ⟨by decide +kernel, rfl⟩
theorem dX7_alike_238 : Dc cX7_alike 238 (.aload_n 0) 1 239 := ⟨by decide +kernel, rfl⟩
theorem dX7_alike_239 : Dc cX7_alike 239 (.iload_n 2) 1 240 := ⟨by decide +kernel, rfl⟩
theorem dX7_alike_240 : Dc cX7_alike 240 (.invokevirtual 60) 3 243 := ⟨by decide +kernel, rfl⟩
theorem dX7_alike_243 : Dc cX7_alike 243 (.iadd) 1 244 := ⟨by decide +kernel, rfl⟩
theorem dX7_alike_244 : Dc cX7_alike 244 (.iaload) 1 245 := ⟨by decide +kernel, rfl⟩
theorem dX7_alike_245 : Dc cX7_alike 245 (.ireturn) 1 246 := ⟨by decide +kernel, rfl⟩
theorem dX7_likeNumbers_0 : Dc cX7_likeNumbers 0 (.iconst 0) 1 1 := ⟨by decide +kernel, rfl⟩
theorem dX7_likeNumbers_1 : Dc cX7_likeNumbers 1 (.istore_n 3) 1 2 := ⟨by decide +kernel, rfl⟩
theorem dX7_likeNumbers_2 : Dc cX7_likeNumbers 2 (.iconst 0) 1 3 := ⟨by decide +kernel, rfl⟩
theorem dX7_likeNumbers_3 : Dc cX7_likeNumbers 3 (.istore 4) 2 5 := ⟨by decide +kernel, rfl⟩
theorem dX7_likeNumbers_5 : Dc cX7_likeNumbers 5 (.iload 4) 2 7 := ⟨by decide +kernel, rfl⟩
theorem dX7_likeNumbers_7 : Dc cX7_likeNumbers 7 (.aload_n 0) 1 8 := ⟨by decide +kernel, rfl⟩
theorem dX7_likeNumbers_8 : Dc cX7_likeNumbers 8 (.iload_n 1) 1 9 := ⟨by decide +kernel, rfl⟩
theorem dX7_likeNumbers_9 : Dc cX7_likeNumbers 9 (.invokevirtual 60) 3 12 := ⟨by decide +kernel, rfl⟩
theorem dX7_likeNumbers_12 : Db cX7_likeNumbers 12 (fun o => .if_icmp .ge o) 15 46 := ⟨34, by decide +kernel, rfl, rfl⟩
theorem dX7_likeNumbers_15 : Dc cX7_likeNumbers 15 (.iload_n 3) 1 16 := ⟨by decide +kernel, rfl⟩
theorem dX7_likeNumbers_16 : Dc cX7_likeNumbers 16 (.aload_n 0) 1 17 := ⟨by decide +kernel, rfl⟩
theorem dX7_likeNumbers_17 : Dc cX7_likeNumbers 17 (.iload_n 1) 1 18 := ⟨by decide +kernel, rfl⟩
theorem dX7_likeNumbers_18 : Dc cX7_likeNumbers 18 (.iload 4) 2 20 := ⟨by decide +kernel, rfl⟩
theorem dX7_likeNumbers_20 : Dc cX7_likeNumbers 20 (.invokevirtual 75) 3 23 := ⟨by decide +kernel, rfl⟩
theorem dX7_likeNumbers_23 : Dc cX7_likeNumbers 23 (.aload_n 0) 1 24 := ⟨by decide +kernel, rfl⟩
theorem dX7_likeNumbers_24 : Dc cX7_likeNumbers 24 (.iload_n 2) 1 25 := ⟨by decide +kernel, rfl⟩
theorem dX7_likeNumbers_25 : Dc cX7_likeNumbers 25 (.iload 4) 2 27 := ⟨by decide +kernel, rfl⟩
theorem dX7_likeNumbers_27 : Dc cX7_likeNumbers 27 (.invokevirtual 75) 3 30 := ⟨by decide +kernel, rfl⟩
theorem dX7_likeNumbers_30 : Db cX7_likeNumbers 30 (fun o => .if_icmp .ne o) 33 37 := ⟨7, by decide +kernel, rfl, rfl⟩
theorem dX7_likeNumbers_33 : Dc cX7_likeNumbers 33 (.iconst 1) 1 34 := ⟨by decide +kernel, rfl⟩
theorem dX7_likeNumbers_34 : Db cX7_likeNumbers 34 .goto 37 38 := ⟨4, by decide +kernel, rfl, rfl⟩
theorem dX7_likeNumbers_37 : Dc cX7_likeNumbers 37 (.iconst 0) 1 38 := ⟨by decide +kernel, rfl⟩
theorem dX7_likeNumbers_38 : Dc cX7_likeNumbers 38 (.iadd) 1 39 := ⟨by decide +kernel, rfl⟩
theorem dX7_likeNumbers_39 : Dc cX7_likeNumbers 39 (.istore_n 3) 1 40 := ⟨by decide +kernel, rfl⟩
theorem dX7_likeNumbers_40 : Dc cX7_likeNumbers 40 (.iinc 4 1) 3 43 := ⟨by decide +kernel, rfl⟩
theorem dX7_likeNumbers_43 : Db cX7_likeNumbers 43 .goto 46 5 := ⟨-38, by decide +kernel, rfl, rfl⟩
theorem dX7_likeNumbers_46 : Dc cX7_likeNumbers 46 (.iload_n 3) 1 47 := ⟨by decide +kernel, rfl⟩
theorem dX7_likeNumbers_47 : Dc cX7_likeNumbers 47 (.ireturn) 1 48 := ⟨by decide +kernel, rfl⟩
theorem dX7_bestPair_0 : Dc cX7_bestPair 0 (.iload_n 1) 1 1 := ⟨by decide +kernel, rfl⟩
theorem dX7_bestPair_1 : Dc cX7_bestPair 1 (.iconst 0) 1 2 := ⟨by decide +kernel, rfl⟩
theorem dX7_bestPair_2 : Dc cX7_bestPair 2 (.iconst 1) 1 3 := ⟨by decide +kernel, rfl⟩
theorem dX7_bestPair_3 : Dc cX7_bestPair 3 (.invokestatic 37) 3 6 := ⟨by decide +kernel, rfl⟩
theorem dX7_bestPair_6 : Db cX7_bestPair 6 (fun o => .ifCond .ne o) 9 12 := ⟨6, by decide +kernel, rfl, rfl⟩
theorem dX7_bestPair_9 : Dc cX7_bestPair 9 (.bipush (-2)) 2 11 := ⟨by decide +kernel, rfl⟩
theorem dX7_bestPair_11 : Dc cX7_bestPair 11 (.ireturn) 1 12 := ⟨by decide +kernel, rfl⟩
theorem dX7_bestPair_12 : Dc cX7_bestPair 12 (.bipush (-5)) 2 14 := ⟨by decide +kernel, rfl⟩
theorem dX7_bestPair_14 : Dc cX7_bestPair 14 (.istore_n 2) 1 15 := ⟨by decide +kernel, rfl⟩
theorem dX7_bestPair_15 : Dc cX7_bestPair 15 (.bipush (-5)) 2 17 := ⟨by decide +kernel, rfl⟩
theorem dX7_bestPair_17 : Dc cX7_bestPair 17 (.istore_n 3) 1 18 := ⟨by decide +kernel, rfl⟩
theorem dX7_bestPair_18 : Dc cX7_bestPair 18 (.iconst 0) 1 19 := ⟨by decide +kernel, rfl⟩
theorem dX7_bestPair_19 : Dc cX7_bestPair 19 (.istore 4) 2 21 := ⟨by decide +kernel, rfl⟩
theorem dX7_bestPair_21 : Dc cX7_bestPair 21 (.iload 4) 2 23 := ⟨by decide +kernel, rfl⟩
theorem dX7_bestPair_23 : Dc cX7_bestPair 23 (.aload_n 0) 1 24 := ⟨by decide +kernel, rfl⟩
theorem dX7_bestPair_24 : Dc cX7_bestPair 24 (.getfield 7) 3 27 := ⟨by decide +kernel, rfl⟩
theorem dX7_bestPair_27 : Dc cX7_bestPair 27 (.bipush 31) 2 29 := ⟨by decide +kernel, rfl⟩
theorem dX7_bestPair_29 : Dc cX7_bestPair 29 (.iaload) 1 30 := ⟨by decide +kernel, rfl⟩
theorem dX7_bestPair_30 : Db cX7_bestPair 30 (fun o => .if_icmp .ge o) 33 129 := ⟨99, by decide +kernel, rfl, rfl⟩
theorem dX7_bestPair_33 : Dc cX7_bestPair 33 (.iload 4) 2 35 := ⟨by decide +kernel, rfl⟩
theorem dX7_bestPair_35 : Dc cX7_bestPair 35 (.iconst 1) 1 36 := ⟨by decide +kernel, rfl⟩
theorem dX7_bestPair_36 : Dc cX7_bestPair 36 (.iadd) 1 37 := ⟨by decide +kernel, rfl⟩
theorem dX7_bestPair_37 : Dc cX7_bestPair 37 (.istore 5) 2 39 := ⟨by decide +kernel, rfl⟩
theorem dX7_bestPair_39 : Dc cX7_bestPair 39 (.iload 5) 2 41 := ⟨by decide +kernel, rfl⟩
theorem dX7_bestPair_41 : Dc cX7_bestPair 41 (.aload_n 0) 1 42 := ⟨by decide +kernel, rfl⟩
theorem dX7_bestPair_42 : Dc cX7_bestPair 42 (.getfield 7) 3 45 := ⟨by decide +kernel, rfl⟩
theorem dX7_bestPair_45 : Dc cX7_bestPair 45 (.bipush 31) 2 47 := ⟨by decide +kernel, rfl⟩
theorem dX7_bestPair_47 : Dc cX7_bestPair 47 (.iaload) 1 48 := ⟨by decide +kernel, rfl⟩
theorem dX7_bestPair_48 : Db cX7_bestPair 48 (fun o => .if_icmp .ge o) 51 123 := ⟨75, by decide +kernel, rfl, rfl⟩
theorem dX7_bestPair_51 : Dc cX7_bestPair 51 (.aload_n 0) 1 52 := ⟨by decide +kernel, rfl⟩
theorem dX7_bestPair_52 : Dc cX7_bestPair 52 (.iload 4) 2 54 := ⟨by decide +kernel, rfl⟩
theorem dX7_bestPair_54 : Dc cX7_bestPair 54 (.iload 5) 2 56 := ⟨by decide +kernel, rfl⟩
theorem dX7_bestPair_56 : Dc cX7_bestPair 56 (.invokevirtual 78) 3 59 := ⟨by decide +kernel, rfl⟩
theorem dX7_bestPair_59 : Db cX7_bestPair 59 (fun o => .ifCond .eq o) 62 78 := ⟨19, by decide +kernel, rfl, rfl⟩
theorem dX7_bestPair_62 : Dc cX7_bestPair 62 (.aload_n 0) 1 63 := ⟨by decide +kernel, rfl⟩
theorem dX7_bestPair_63 : Dc cX7_bestPair 63 (.iload 4) 2 65 := ⟨by decide +kernel, rfl⟩
theorem dX7_bestPair_65 : Dc cX7_bestPair 65 (.iload 5) 2 67 := ⟨by decide +kernel, rfl⟩
theorem dX7_bestPair_67 : Dc cX7_bestPair 67 (.invokevirtual 147) 3 70 := ⟨by decide +kernel, rfl⟩
theorem dX7_bestPair_70 : Dc cX7_bestPair 70 (.iload_n 3) 1 71 := ⟨by decide +kernel, rfl⟩
theorem dX7_bestPair_71 : Db cX7_bestPair 71 (fun o => .if_icmp .le o) 74 78 := ⟨7, by decide +kernel, rfl, rfl⟩
theorem dX7_bestPair_74 : Dc cX7_bestPair 74 (.iconst 1) 1 75 := ⟨by decide +kernel, rfl⟩
theorem dX7_bestPair_75 : Db cX7_bestPair 75 .goto 78 79 := ⟨4, by decide +kernel, rfl, rfl⟩
theorem dX7_bestPair_78 : Dc cX7_bestPair 78 (.iconst 0) 1 79 := ⟨by decide +kernel, rfl⟩
theorem dX7_bestPair_79 : Dc cX7_bestPair 79 (.istore 6) 2 81 := ⟨by decide +kernel, rfl⟩
theorem dX7_bestPair_81 : Dc cX7_bestPair 81 (.iload 6) 2 83 := ⟨by decide +kernel, rfl⟩
theorem dX7_bestPair_83 : Db cX7_bestPair 83 (fun o => .ifCond .eq o) 86 97 := ⟨14, by decide +kernel, rfl, rfl⟩
theorem dX7_bestPair_86 : Dc cX7_bestPair 86 (.bipush 10) 2 88 := ⟨by decide +kernel, rfl⟩
theorem dX7_bestPair_88 : Dc cX7_bestPair 88 (.iload 4) 2 90 := ⟨by decide +kernel, rfl⟩
theorem dX7_bestPair_90 : Dc cX7_bestPair 90 (.imul) 1 91 := ⟨by decide +kernel, rfl⟩
theorem dX7_bestPair_91 : Dc cX7_bestPair 91 (.iload 5) 2 93 := ⟨by decide +kernel, rfl⟩
theorem dX7_bestPair_93 : Dc cX7_bestPair 93 (.iadd) 1 94 := ⟨by decide +kernel, rfl⟩
theorem dX7_bestPair_94 : Db cX7_bestPair 94 .goto 97 98 := ⟨4, by decide +kernel, rfl, rfl⟩
theorem dX7_bestPair_97 : Dc cX7_bestPair 97 (.iload_n 2) 1 98 := ⟨by decide +kernel, rfl⟩
theorem dX7_bestPair_98 : Dc cX7_bestPair 98 (.istore_n 2) 1 99 := ⟨by decide +kernel, rfl⟩
theorem dX7_bestPair_99 : Dc cX7_bestPair 99 (.iload 6) 2 101 := ⟨by decide +kernel, rfl⟩
theorem dX7_bestPair_101 : Db cX7_bestPair 101 (fun o => .ifCond .eq o) 104 115 := ⟨14, by decide +kernel, rfl, rfl⟩
theorem dX7_bestPair_104 : Dc cX7_bestPair 104 (.aload_n 0) 1 105 := ⟨by decide +kernel, rfl⟩
theorem dX7_bestPair_105 : Dc cX7_bestPair 105 (.iload 4) 2 107 := ⟨by decide +kernel, rfl⟩
theorem dX7_bestPair_107 : Dc cX7_bestPair 107 (.iload 5) 2 109 := ⟨by decide +kernel, rfl⟩
theorem dX7_bestPair_109 : Dc cX7_bestPair 109 (.invokevirtual 147) 3 112 := ⟨by decide +kernel, rfl⟩
theorem dX7_bestPair_112 : Db cX7_bestPair 112 .goto 115 116 := ⟨4, by decide +kernel, rfl, rfl⟩
theorem dX7_bestPair_115 : Dc cX7_bestPair 115 (.iload_n 3) 1 116 := ⟨by decide +kernel, rfl⟩
theorem dX7_bestPair_116 : Dc cX7_bestPair 116 (.istore_n 3) 1 117 := ⟨by decide +kernel, rfl⟩
theorem dX7_bestPair_117 : Dc cX7_bestPair 117 (.iinc 5 1) 3 120 := ⟨by decide +kernel, rfl⟩
theorem dX7_bestPair_120 : Db cX7_bestPair 120 .goto 123 39 := ⟨-81, by decide +kernel, rfl, rfl⟩
theorem dX7_bestPair_123 : Dc cX7_bestPair 123 (.iinc 4 1) 3 126 := ⟨by decide +kernel, rfl⟩
theorem dX7_bestPair_126 : Db cX7_bestPair 126 .goto 129 21 := ⟨-105, by decide +kernel, rfl, rfl⟩
theorem dX7_bestPair_129 : Dc cX7_bestPair 129 (.iload_n 1) 1 130 := ⟨by decide +kernel, rfl⟩
theorem dX7_bestPair_130 : Db cX7_bestPair 130 (fun o => .ifCond .ne o) 133 137 := ⟨7, by decide +kernel, rfl, rfl⟩
theorem dX7_bestPair_133 : Dc cX7_bestPair 133 (.iload_n 2) 1 134 := ⟨by decide +kernel, rfl⟩
theorem dX7_bestPair_134 : Db cX7_bestPair 134 .goto 137 138 := ⟨4, by decide +kernel, rfl, rfl⟩
theorem dX7_bestPair_137 : Dc cX7_bestPair 137 (.iload_n 3) 1 138 := ⟨by decide +kernel, rfl⟩
theorem dX7_bestPair_138 : Dc cX7_bestPair 138 (.ireturn) 1 139 := ⟨by decide +kernel, rfl⟩
theorem dX7_fits_0 : Dc cX7_fits 0 (.aload_n 0) 1 1 := ⟨by decide +kernel, rfl⟩
theorem dX7_fits_1 : Dc cX7_fits 1 (.iload_n 1) 1 2 := ⟨by decide +kernel, rfl⟩
theorem dX7_fits_2 : Dc cX7_fits 2 (.invokevirtual 92) 3 5 := ⟨by decide +kernel, rfl⟩
theorem dX7_fits_5 : Db cX7_fits 5 (fun o => .ifCond .eq o) 8 16 := ⟨11, by decide +kernel, rfl, rfl⟩
theorem dX7_fits_8 : Dc cX7_fits 8 (.aload_n 0) 1 9 := ⟨by decide +kernel, rfl⟩
theorem dX7_fits_9 : Dc cX7_fits 9 (.iload_n 2) 1 10 := ⟨by decide +kernel, rfl⟩
theorem dX7_fits_10 : Dc cX7_fits 10 (.invokevirtual 67) 3 13 := ⟨by decide +kernel, rfl⟩
theorem dX7_fits_13 : Db cX7_fits 13 (fun o => .ifCond .ne o) 16 18 := ⟨5, by decide +kernel, rfl, rfl⟩
theorem dX7_fits_16 : Dc cX7_fits 16 (.iconst (-1)) 1 17 := ⟨by decide +kernel, rfl⟩
theorem dX7_fits_17 : Dc cX7_fits 17 (.ireturn) 1 18 := ⟨by decide +kernel, rfl⟩
theorem dX7_fits_18 : Dc cX7_fits 18 (.aload_n 0) 1 19 := ⟨by decide +kernel, rfl⟩
theorem dX7_fits_19 : Dc cX7_fits 19 (.iload_n 1) 1 20 := ⟨by decide +kernel, rfl⟩
theorem dX7_fits_20 : Dc cX7_fits 20 (.invokevirtual 101) 3 23 := ⟨by decide +kernel, rfl⟩
theorem dX7_fits_23 : Dc cX7_fits 23 (.aload_n 0) 1 24 := ⟨by decide +kernel, rfl⟩
theorem dX7_fits_24 : Dc cX7_fits 24 (.iload_n 2) 1 25 := ⟨by decide +kernel, rfl⟩
theorem dX7_fits_25 : Dc cX7_fits 25 (.invokevirtual 60) 3 28 := ⟨by decide +kernel, rfl⟩
theorem dX7_fits_28 : Dc cX7_fits 28 (.aload_n 0) 1 29 := ⟨by decide +kernel, rfl⟩
theorem dX7_fits_29 : Dc cX7_fits 29 (.getfield 95) 3 32 := ⟨by decide +kernel, rfl⟩
theorem dX7_fits_32 : Dc cX7_fits 32 (.irem) 1 33 := ⟨by decide +kernel, rfl⟩
theorem dX7_fits_33 : Db cX7_fits 33 (fun o => .ifCond .ne o) 36 40 := ⟨7, by decide +kernel, rfl, rfl⟩
theorem dX7_fits_36 : Dc cX7_fits 36 (.iconst 1) 1 37 := ⟨by decide +kernel, rfl⟩
theorem dX7_fits_37 : Db cX7_fits 37 .goto 40 41 := ⟨4, by decide +kernel, rfl, rfl⟩
theorem dX7_fits_40 : Dc cX7_fits 40 (.iconst 0) 1 41 := ⟨by decide +kernel, rfl⟩
theorem dX7_fits_41 : Dc cX7_fits 41 (.istore_n 3) 1 42 := ⟨by decide +kernel, rfl⟩
theorem dX7_fits_42 : Dc cX7_fits 42 (.iconst 0) 1 43 := ⟨by decide +kernel, rfl⟩
theorem dX7_fits_43 : Dc cX7_fits 43 (.istore 4) 2 45 := ⟨by decide +kernel, rfl⟩
theorem dX7_fits_45 : Dc cX7_fits 45 (.iload 4) 2 47 := ⟨by decide +kernel, rfl⟩
theorem dX7_fits_47 : Dc cX7_fits 47 (.aload_n 0) 1 48 := ⟨by decide +kernel, rfl⟩
theorem dX7_fits_48 : Dc cX7_fits 48 (.iload_n 2) 1 49 := ⟨by decide +kernel, rfl⟩
theorem dX7_fits_49 : Dc cX7_fits 49 (.invokevirtual 60) 3 52 := ⟨by decide +kernel, rfl⟩
theorem dX7_fits_52 : Db cX7_fits 52 (fun o => .if_icmp .ge o) 55 140 := ⟨88, by decide +kernel, rfl, rfl⟩
theorem dX7_fits_55 : Dc cX7_fits 55 (.aload_n 0) 1 56 := ⟨by decide +kernel, rfl⟩
theorem dX7_fits_56 : Dc cX7_fits 56 (.getfield 28) 3 59 := ⟨by decide +kernel, rfl⟩
theorem dX7_fits_59 : Dc cX7_fits 59 (.iload 4) 2 61 := ⟨by decide +kernel, rfl⟩
theorem dX7_fits_61 : Dc cX7_fits 61 (.aload_n 0) 1 62 := ⟨by decide +kernel, rfl⟩
theorem dX7_fits_62 : Dc cX7_fits 62 (.getfield 95) 3 65 := ⟨by decide +kernel, rfl⟩
theorem dX7_fits_65 : Dc cX7_fits 65 (.irem) 1 66 := ⟨by decide +kernel, rfl⟩
theorem dX7_fits_66 : Dc cX7_fits 66 (.iaload) 1 67 := ⟨by decide +kernel, rfl⟩
theorem dX7_fits_67 : Dc cX7_fits 67 (.iload 4) 2 69 := ⟨by decide +kernel, rfl⟩
theorem dX7_fits_69 : Dc cX7_fits 69 (.aload_n 0) 1 70 := ⟨by decide +kernel, rfl⟩
theorem dX7_fits_70 : Dc cX7_fits 70 (.getfield 95) 3 73 := ⟨by decide +kernel, rfl⟩
theorem dX7_fits_73 : Dc cX7_fits 73 (.idiv) 1 74 := ⟨by decide +kernel, rfl⟩
theorem dX7_fits_74 : Dc cX7_fits 74 (.aload_n 0) 1 75 := ⟨by decide +kernel, rfl⟩
theorem dX7_fits_75 : Dc cX7_fits 75 (.getfield 31) 3 78 := ⟨by decide +kernel, rfl⟩
theorem dX7_fits_78 : Dc cX7_fits 78 (.iload 4) 2 80 := ⟨by decide +kernel, rfl⟩
theorem dX7_fits_80 : Dc cX7_fits 80 (.aload_n 0) 1 81 := ⟨by decide +kernel, rfl⟩
theorem dX7_fits_81 : Dc cX7_fits 81 (.getfield 95) 3 84 := ⟨by decide +kernel, rfl⟩
theorem dX7_fits_84 : Dc cX7_fits 84 (.irem) 1 85 := ⟨by decide +kernel, rfl⟩
theorem dX7_fits_85 : Dc cX7_fits 85 (.iaload) 1 86 := ⟨by decide +kernel, rfl⟩
theorem dX7_fits_86 : Dc cX7_fits 86 (.imul) 1 87 := ⟨by decide +kernel, rfl⟩
theorem dX7_fits_87 : Dc cX7_fits 87 (.iadd) 1 88 := ⟨by decide +kernel, rfl⟩
theorem dX7_fits_88 : Dc cX7_fits 88 (.istore 5) 2 90 := ⟨by decide +kernel, rfl⟩
theorem dX7_fits_90 : Dc cX7_fits 90 (.iload_n 3) 1 91 := ⟨by decide +kernel, rfl⟩
theorem dX7_fits_91 : Db cX7_fits 91 (fun o => .ifCond .eq o) 94 132 := ⟨41, by decide +kernel, rfl, rfl⟩
theorem dX7_fits_94 : Dc cX7_fits 94 (.aload_n 0) 1 95 := ⟨by decide +kernel, rfl⟩
theorem dX7_fits_95 : Dc cX7_fits 95 (.iload_n 2) 1 96 := ⟨by decide +kernel, rfl⟩
theorem dX7_fits_96 : Dc cX7_fits 96 (.iload 4) 2 98 := ⟨by decide +kernel, rfl⟩
theorem dX7_fits_98 : Dc cX7_fits 98 (.invokevirtual 71) 3 101 := ⟨by decide +kernel, rfl⟩
theorem dX7_fits_101 : Dc cX7_fits 101 (.aload_n 0) 1 102 := ⟨by decide +kernel, rfl⟩
theorem dX7_fits_102 : Dc cX7_fits 102 (.getfield 25) 3 105 := ⟨by decide +kernel, rfl⟩
theorem dX7_fits_105 : Dc cX7_fits 105 (.iload 4) 2 107 := ⟨by decide +kernel, rfl⟩
theorem dX7_fits_107 : Dc cX7_fits 107 (.aload_n 0) 1 108 := ⟨by decide +kernel, rfl⟩
theorem dX7_fits_108 : Dc cX7_fits 108 (.getfield 95) 3 111 := ⟨by decide +kernel, rfl⟩
theorem dX7_fits_111 : Dc cX7_fits 111 (.irem) 1 112 := ⟨by decide +kernel, rfl⟩
theorem dX7_fits_112 : Dc cX7_fits 112 (.iaload) 1 113 := ⟨by decide +kernel, rfl⟩
theorem dX7_fits_113 : Db cX7_fits 113 (fun o => .if_icmp .ne o) 116 132 := ⟨19, by decide +kernel, rfl, rfl⟩
theorem dX7_fits_116 : Dc cX7_fits 116 (.aload_n 0) 1 117 := ⟨by decide +kernel, rfl⟩
theorem dX7_fits_117 : Dc cX7_fits 117 (.iload_n 2) 1 118 := ⟨by decide +kernel, rfl⟩
theorem dX7_fits_118 : Dc cX7_fits 118 (.iload 4) 2 120 := ⟨by decide +kernel, rfl⟩
theorem dX7_fits_120 : Dc cX7_fits 120 (.invokevirtual 75) 3 123 := ⟨by decide +kernel, rfl⟩
theorem dX7_fits_123 : Dc cX7_fits 123 (.iload 5) 2 125 := ⟨by decide +kernel, rfl⟩
theorem dX7_fits_125 : Db cX7_fits 125 (fun o => .if_icmp .ne o) 128 132 := ⟨7, by decide +kernel, rfl, rfl⟩
theorem dX7_fits_128 : Dc cX7_fits 128 (.iconst 1) 1 129 := ⟨by decide +kernel, rfl⟩
theorem dX7_fits_129 : Db cX7_fits 129 .goto 132 133 := ⟨4, by decide +kernel, rfl, rfl⟩
theorem dX7_fits_132 : Dc cX7_fits 132 (.iconst 0) 1 133 := ⟨by decide +kernel, rfl⟩
theorem dX7_fits_133 : Dc cX7_fits 133 (.istore_n 3) 1 134 := ⟨by decide +kernel, rfl⟩
theorem dX7_fits_134 : Dc cX7_fits 134 (.iinc 4 1) 3 137 := ⟨by decide +kernel, rfl⟩
theorem dX7_fits_137 : Db cX7_fits 137 .goto 140 45 := ⟨-92, by decide +kernel, rfl, rfl⟩
theorem dX7_fits_140 : Dc cX7_fits 140 (.iload_n 3) 1 141 := ⟨by decide +kernel, rfl⟩
theorem dX7_fits_141 : Db cX7_fits 141 (fun o => .ifCond .eq o) 144 157 := ⟨16, by decide +kernel, rfl, rfl⟩
theorem dX7_fits_144 : Dc cX7_fits 144 (.aload_n 0) 1 145 := ⟨by decide +kernel, rfl⟩
theorem dX7_fits_145 : Dc cX7_fits 145 (.iload_n 2) 1 146 := ⟨by decide +kernel, rfl⟩
theorem dX7_fits_146 : Dc cX7_fits 146 (.invokevirtual 60) 3 149 := ⟨by decide +kernel, rfl⟩
theorem dX7_fits_149 : Dc cX7_fits 149 (.aload_n 0) 1 150 := ⟨by decide +kernel, rfl⟩
theorem dX7_fits_150 : Dc cX7_fits 150 (.getfield 95) 3 153 := ⟨by decide +kernel, rfl⟩
theorem dX7_fits_153 : Dc cX7_fits 153 (.idiv) 1 154 := ⟨by decide +kernel, rfl⟩
theorem dX7_fits_154 : Db cX7_fits 154 .goto 157 159 := ⟨5, by decide +kernel, rfl, rfl⟩
theorem dX7_fits_157 : Dc cX7_fits 157 (.bipush (-5)) 2 159 := ⟨by decide +kernel, rfl⟩
theorem dX7_fits_159 : Dc cX7_fits 159 (.ireturn) 1 160 := ⟨by decide +kernel, rfl⟩
theorem dX7_mostTurns_0 : Dc cX7_mostTurns 0 (.aload_n 0) 1 1 := ⟨by decide +kernel, rfl⟩
theorem dX7_mostTurns_1 : Dc cX7_mostTurns 1 (.iload_n 1) 1 2 := ⟨by decide +kernel, rfl⟩
theorem dX7_mostTurns_2 : Dc cX7_mostTurns 2 (.invokevirtual 92) 3 5 := ⟨by decide +kernel, rfl⟩
theorem dX7_mostTurns_5 : Db cX7_mostTurns 5 (fun o => .ifCond .ne o) 8 10 := ⟨5, by decide +kernel, rfl, rfl⟩
theorem dX7_mostTurns_8 : Dc cX7_mostTurns 8 (.iconst (-1)) 1 9 := ⟨by decide +kernel, rfl⟩
theorem dX7_mostTurns_9 : Dc cX7_mostTurns 9 (.ireturn) 1 10 := ⟨by decide +kernel, rfl⟩
theorem dX7_mostTurns_10 : Dc cX7_mostTurns 10 (.aload_n 0) 1 11 := ⟨by decide +kernel, rfl⟩
theorem dX7_mostTurns_11 : Dc cX7_mostTurns 11 (.iload_n 1) 1 12 := ⟨by decide +kernel, rfl⟩
theorem dX7_mostTurns_12 : Dc cX7_mostTurns 12 (.invokevirtual 101) 3 15 := ⟨by decide +kernel, rfl⟩
theorem dX7_mostTurns_15 : Dc cX7_mostTurns 15 (.bipush (-5)) 2 17 := ⟨by decide +kernel, rfl⟩
theorem dX7_mostTurns_17 : Dc cX7_mostTurns 17 (.istore_n 2) 1 18 := ⟨by decide +kernel, rfl⟩
theorem dX7_mostTurns_18 : Dc cX7_mostTurns 18 (.iconst 0) 1 19 := ⟨by decide +kernel, rfl⟩
theorem dX7_mostTurns_19 : Dc cX7_mostTurns 19 (.istore_n 3) 1 20 := ⟨by decide +kernel, rfl⟩
theorem dX7_mostTurns_20 : Dc cX7_mostTurns 20 (.iload_n 3) 1 21 := ⟨by decide +kernel, rfl⟩
theorem dX7_mostTurns_21 : Dc cX7_mostTurns 21 (.aload_n 0) 1 22 := ⟨by decide +kernel, rfl⟩
theorem dX7_mostTurns_22 : Dc cX7_mostTurns 22 (.getfield 95) 3 25 := ⟨by decide +kernel, rfl⟩
theorem dX7_mostTurns_25 : Db cX7_mostTurns 25 (fun o => .if_icmp .ge o) 28 119 := ⟨94, by decide +kernel, rfl, rfl⟩
theorem dX7_mostTurns_28 : Dc cX7_mostTurns 28 (.aload_n 0) 1 29 := ⟨by decide +kernel, rfl⟩
theorem dX7_mostTurns_29 : Dc cX7_mostTurns 29 (.getfield 31) 3 32 := ⟨by decide +kernel, rfl⟩
theorem dX7_mostTurns_32 : Dc cX7_mostTurns 32 (.iload_n 3) 1 33 := ⟨by decide +kernel, rfl⟩
theorem dX7_mostTurns_33 : Dc cX7_mostTurns 33 (.iaload) 1 34 := ⟨by decide +kernel, rfl⟩
theorem dX7_mostTurns_34 : Dc cX7_mostTurns 34 (.istore 4) 2 36 := ⟨by decide +kernel, rfl⟩
theorem dX7_mostTurns_36 : Dc cX7_mostTurns 36 (.iload 4) 2 38 := ⟨by decide +kernel, rfl⟩
theorem dX7_mostTurns_38 : Db cX7_mostTurns 38 (fun o => .ifCond .ne o) 41 46 := ⟨8, by decide +kernel, rfl, rfl⟩
theorem dX7_mostTurns_41 : Dc cX7_mostTurns 41 (.bipush (-5)) 2 43 := ⟨by decide +kernel, rfl⟩
theorem dX7_mostTurns_43 : Db cX7_mostTurns 43 .goto 46 85 := ⟨42, by decide +kernel, rfl, rfl⟩
theorem dX7_mostTurns_46 : Dc cX7_mostTurns 46 (.iconst 1) 1 47 := ⟨by decide +kernel, rfl⟩
theorem dX7_mostTurns_47 : Dc cX7_mostTurns 47 (.iload 4) 2 49 := ⟨by decide +kernel, rfl⟩
theorem dX7_mostTurns_49 : Db cX7_mostTurns 49 (fun o => .ifCond .le o) 52 74 := ⟨25, by decide +kernel, rfl, rfl⟩
theorem dX7_mostTurns_52 : Dc cX7_mostTurns 52 (.aload_n 0) 1 53 := ⟨by decide +kernel, rfl⟩
theorem dX7_mostTurns_53 : Dc cX7_mostTurns 53 (.getfield 25) 3 56 := ⟨by decide +kernel, rfl⟩
theorem dX7_mostTurns_56 : Dc cX7_mostTurns 56 (.iload_n 3) 1 57 := ⟨by decide +kernel, rfl⟩
theorem dX7_mostTurns_57 : Dc cX7_mostTurns 57 (.iaload) 1 58 := ⟨by decide +kernel, rfl⟩
theorem dX7_mostTurns_58 : Dc cX7_mostTurns 58 (.invokestatic 56) 3 61 := ⟨by decide +kernel, rfl⟩
theorem dX7_mostTurns_61 : Dc cX7_mostTurns 61 (.aload_n 0) 1 62 := ⟨by decide +kernel, rfl⟩
theorem dX7_mostTurns_62 : Dc cX7_mostTurns 62 (.getfield 28) 3 65 := ⟨by decide +kernel, rfl⟩
theorem dX7_mostTurns_65 : Dc cX7_mostTurns 65 (.iload_n 3) 1 66 := ⟨by decide +kernel, rfl⟩
theorem dX7_mostTurns_66 : Dc cX7_mostTurns 66 (.iaload) 1 67 := ⟨by decide +kernel, rfl⟩
theorem dX7_mostTurns_67 : Dc cX7_mostTurns 67 (.isub) 1 68 := ⟨by decide +kernel, rfl⟩
theorem dX7_mostTurns_68 : Dc cX7_mostTurns 68 (.iload 4) 2 70 := ⟨by decide +kernel, rfl⟩
theorem dX7_mostTurns_70 : Dc cX7_mostTurns 70 (.idiv) 1 71 := ⟨by decide +kernel, rfl⟩
theorem dX7_mostTurns_71 : Db cX7_mostTurns 71 .goto 74 84 := ⟨13, by decide +kernel, rfl, rfl⟩
theorem dX7_mostTurns_74 : Dc cX7_mostTurns 74 (.aload_n 0) 1 75 := ⟨by decide +kernel, rfl⟩
theorem dX7_mostTurns_75 : Dc cX7_mostTurns 75 (.getfield 28) 3 78 := ⟨by decide +kernel, rfl⟩
theorem dX7_mostTurns_78 : Dc cX7_mostTurns 78 (.iload_n 3) 1 79 := ⟨by decide +kernel, rfl⟩
theorem dX7_mostTurns_79 : Dc cX7_mostTurns 79 (.iaload) 1 80 := ⟨by decide +kernel, rfl⟩
theorem dX7_mostTurns_80 : Dc cX7_mostTurns 80 (.iload 4) 2 82 := ⟨by decide +kernel, rfl⟩
theorem dX7_mostTurns_82 : Dc cX7_mostTurns 82 (.ineg) 1 83 := ⟨by decide +kernel, rfl⟩
theorem dX7_mostTurns_83 : Dc cX7_mostTurns 83 (.idiv) 1 84 := ⟨by decide +kernel, rfl⟩
theorem dX7_mostTurns_84 : Dc cX7_mostTurns 84 (.iadd) 1 85 := ⟨by decide +kernel, rfl⟩
theorem dX7_mostTurns_85 : Dc cX7_mostTurns 85 (.istore 5) 2 87 := ⟨by decide +kernel, rfl⟩
theorem dX7_mostTurns_87 : Dc cX7_mostTurns 87 (.iload 5) 2 89 := ⟨by decide +kernel, rfl⟩
theorem dX7_mostTurns_89 : Dc cX7_mostTurns 89 (.bipush (-5)) 2 91 := ⟨by decide +kernel, rfl⟩
theorem dX7_mostTurns_91 : Db cX7_mostTurns 91 (fun o => .if_icmp .eq o) 94 111 := ⟨20, by decide +kernel, rfl, rfl⟩
theorem dX7_mostTurns_94 : Dc cX7_mostTurns 94 (.iload_n 2) 1 95 := ⟨by decide +kernel, rfl⟩
theorem dX7_mostTurns_95 : Dc cX7_mostTurns 95 (.bipush (-5)) 2 97 := ⟨by decide +kernel, rfl⟩
theorem dX7_mostTurns_97 : Db cX7_mostTurns 97 (fun o => .if_icmp .eq o) 100 106 := ⟨9, by decide +kernel, rfl, rfl⟩
theorem dX7_mostTurns_100 : Dc cX7_mostTurns 100 (.iload 5) 2 102 := ⟨by decide +kernel, rfl⟩
theorem dX7_mostTurns_102 : Dc cX7_mostTurns 102 (.iload_n 2) 1 103 := ⟨by decide +kernel, rfl⟩
theorem dX7_mostTurns_103 : Db cX7_mostTurns 103 (fun o => .if_icmp .ge o) 106 111 := ⟨8, by decide +kernel, rfl, rfl⟩
theorem dX7_mostTurns_106 : Dc cX7_mostTurns 106 (.iload 5) 2 108 := ⟨by decide +kernel, rfl⟩
theorem dX7_mostTurns_108 : Db cX7_mostTurns 108 .goto 111 112 := ⟨4, by decide +kernel, rfl, rfl⟩
theorem dX7_mostTurns_111 : Dc cX7_mostTurns 111 (.iload_n 2) 1 112 := ⟨by decide +kernel, rfl⟩
theorem dX7_mostTurns_112 : Dc cX7_mostTurns 112 (.istore_n 2) 1 113 := ⟨by decide +kernel, rfl⟩
theorem dX7_mostTurns_113 : Dc cX7_mostTurns 113 (.iinc 3 1) 3 116 := ⟨by decide +kernel, rfl⟩
theorem dX7_mostTurns_116 : Db cX7_mostTurns 116 .goto 119 20 := ⟨-96, by decide +kernel, rfl, rfl⟩
theorem dX7_mostTurns_119 : Dc cX7_mostTurns 119 (.iload_n 2) 1 120 := ⟨by decide +kernel, rfl⟩
theorem dX7_mostTurns_120 : Dc cX7_mostTurns 120 (.ireturn) 1 121 := ⟨by decide +kernel, rfl⟩
theorem dX7_tests_0 : Dc cX7_tests 0 (.iconst 0) 1 1 := ⟨by decide +kernel, rfl⟩
theorem dX7_tests_1 : Dc cX7_tests 1 (.istore_n 2) 1 2 := ⟨by decide +kernel, rfl⟩
theorem dX7_tests_2 : Dc cX7_tests 2 (.iconst 0) 1 3 := ⟨by decide +kernel, rfl⟩
theorem dX7_tests_3 : Dc cX7_tests 3 (.istore_n 3) 1 4 := ⟨by decide +kernel, rfl⟩
theorem dX7_tests_4 : Dc cX7_tests 4 (.iload_n 3) 1 5 := ⟨by decide +kernel, rfl⟩
theorem dX7_tests_5 : Dc cX7_tests 5 (.iload_n 1) 1 6 := ⟨by decide +kernel, rfl⟩
theorem dX7_tests_6 : Db cX7_tests 6 (fun o => .if_icmp .ge o) 9 38 := ⟨32, by decide +kernel, rfl, rfl⟩
theorem dX7_tests_9 : Dc cX7_tests 9 (.iload_n 2) 1 10 := ⟨by decide +kernel, rfl⟩
theorem dX7_tests_10 : Dc cX7_tests 10 (.aload_n 0) 1 11 := ⟨by decide +kernel, rfl⟩
theorem dX7_tests_11 : Dc cX7_tests 11 (.getfield 25) 3 14 := ⟨by decide +kernel, rfl⟩
theorem dX7_tests_14 : Dc cX7_tests 14 (.iload_n 3) 1 15 := ⟨by decide +kernel, rfl⟩
theorem dX7_tests_15 : Dc cX7_tests 15 (.aload_n 0) 1 16 := ⟨by decide +kernel, rfl⟩
theorem dX7_tests_16 : Dc cX7_tests 16 (.getfield 95) 3 19 := ⟨by decide +kernel, rfl⟩
theorem dX7_tests_19 : Dc cX7_tests 19 (.irem) 1 20 := ⟨by decide +kernel, rfl⟩
theorem dX7_tests_20 : Dc cX7_tests 20 (.iaload) 1 21 := ⟨by decide +kernel, rfl⟩
theorem dX7_tests_21 : Dc cX7_tests 21 (.iconst 4) 1 22 := ⟨by decide +kernel, rfl⟩
theorem dX7_tests_22 : Db cX7_tests 22 (fun o => .if_icmp .le o) 25 29 := ⟨7, by decide +kernel, rfl, rfl⟩
theorem dX7_tests_25 : Dc cX7_tests 25 (.iconst 1) 1 26 := ⟨by decide +kernel, rfl⟩
theorem dX7_tests_26 : Db cX7_tests 26 .goto 29 30 := ⟨4, by decide +kernel, rfl, rfl⟩
theorem dX7_tests_29 : Dc cX7_tests 29 (.iconst 0) 1 30 := ⟨by decide +kernel, rfl⟩
theorem dX7_tests_30 : Dc cX7_tests 30 (.iadd) 1 31 := ⟨by decide +kernel, rfl⟩
theorem dX7_tests_31 : Dc cX7_tests 31 (.istore_n 2) 1 32 := ⟨by decide +kernel, rfl⟩
theorem dX7_tests_32 : Dc cX7_tests 32 (.iinc 3 1) 3 35 := ⟨by decide +kernel, rfl⟩
theorem dX7_tests_35 : Db cX7_tests 35 .goto 38 4 := ⟨-31, by decide +kernel, rfl, rfl⟩
theorem dX7_tests_38 : Dc cX7_tests 38 (.iload_n 2) 1 39 := ⟨by decide +kernel, rfl⟩
theorem dX7_tests_39 : Dc cX7_tests 39 (.ireturn) 1 40 := ⟨by decide +kernel, rfl⟩
theorem dX7_ifPlayed_0 : Dc cX7_ifPlayed 0 (.aload_n 0) 1 1 := ⟨by decide +kernel, rfl⟩
theorem dX7_ifPlayed_1 : Dc cX7_ifPlayed 1 (.iload_n 1) 1 2 := ⟨by decide +kernel, rfl⟩
theorem dX7_ifPlayed_2 : Dc cX7_ifPlayed 2 (.invokevirtual 92) 3 5 := ⟨by decide +kernel, rfl⟩
theorem dX7_ifPlayed_5 : Db cX7_ifPlayed 5 (fun o => .ifCond .ne o) 8 10 := ⟨5, by decide +kernel, rfl, rfl⟩
theorem dX7_ifPlayed_8 : Dc cX7_ifPlayed 8 (.iconst (-1)) 1 9 := ⟨by decide +kernel, rfl⟩
theorem dX7_ifPlayed_9 : Dc cX7_ifPlayed 9 (.ireturn) 1 10 := ⟨by decide +kernel, rfl⟩
theorem dX7_ifPlayed_10 : Dc cX7_ifPlayed 10 (.iload_n 2) 1 11 := ⟨by decide +kernel, rfl⟩
theorem dX7_ifPlayed_11 : Dc cX7_ifPlayed 11 (.iconst 1) 1 12 := ⟨by decide +kernel, rfl⟩
theorem dX7_ifPlayed_12 : Dc cX7_ifPlayed 12 (.bipush 99) 2 14 := ⟨by decide +kernel, rfl⟩
theorem dX7_ifPlayed_14 : Dc cX7_ifPlayed 14 (.invokestatic 37) 3 17 := ⟨by decide +kernel, rfl⟩
theorem dX7_ifPlayed_17 : Db cX7_ifPlayed 17 (fun o => .ifCond .eq o) 20 29 := ⟨12, by decide +kernel, rfl, rfl⟩
theorem dX7_ifPlayed_20 : Dc cX7_ifPlayed 20 (.iload_n 3) 1 21 := ⟨by decide +kernel, rfl⟩
theorem dX7_ifPlayed_21 : Dc cX7_ifPlayed 21 (.iconst 0) 1 22 := ⟨by decide +kernel, rfl⟩
theorem dX7_ifPlayed_22 : Dc cX7_ifPlayed 22 (.iconst 4) 1 23 := ⟨by decide +kernel, rfl⟩
theorem dX7_ifPlayed_23 : Dc cX7_ifPlayed 23 (.invokestatic 37) 3 26 := ⟨by decide +kernel, rfl⟩
theorem dX7_ifPlayed_26 : Db cX7_ifPlayed 26 (fun o => .ifCond .ne o) 29 32 := ⟨6, by decide +kernel, rfl, rfl⟩
theorem dX7_ifPlayed_29 : Dc cX7_ifPlayed 29 (.bipush (-2)) 2 31 := ⟨by decide +kernel, rfl⟩
theorem dX7_ifPlayed_31 : Dc cX7_ifPlayed 31 (.ireturn) 1 32 := ⟨by decide +kernel, rfl⟩
theorem dX7_ifPlayed_32 : Dc cX7_ifPlayed 32 (.aload_n 0) 1 33 := ⟨by decide +kernel, rfl⟩
theorem dX7_ifPlayed_33 : Dc cX7_ifPlayed 33 (.getfield 7) 3 36 := ⟨by decide +kernel, rfl⟩
theorem dX7_ifPlayed_36 : Dc cX7_ifPlayed 36 (.iconst 0) 1 37 := ⟨by decide +kernel, rfl⟩
theorem dX7_ifPlayed_37 : Dc cX7_ifPlayed 37 (.aload_n 0) 1 38 := ⟨by decide +kernel, rfl⟩
theorem dX7_ifPlayed_38 : Dc cX7_ifPlayed 38 (.getfield 13) 3 41 := ⟨by decide +kernel, rfl⟩
theorem dX7_ifPlayed_41 : Dc cX7_ifPlayed 41 (.iconst 0) 1 42 := ⟨by decide +kernel, rfl⟩
theorem dX7_ifPlayed_42 : Dc cX7_ifPlayed 42 (.invokestatic 45) 3 45 := ⟨by decide +kernel, rfl⟩
theorem dX7_ifPlayed_45 : Dc cX7_ifPlayed 45 (.aload_n 0) 1 46 := ⟨by decide +kernel, rfl⟩
theorem dX7_ifPlayed_46 : Dc cX7_ifPlayed 46 (.iload_n 1) 1 47 := ⟨by decide +kernel, rfl⟩
theorem dX7_ifPlayed_47 : Dc cX7_ifPlayed 47 (.iload_n 2) 1 48 := ⟨by decide +kernel, rfl⟩
theorem dX7_ifPlayed_48 : Dc cX7_ifPlayed 48 (.invokevirtual 108) 3 51 := ⟨by decide +kernel, rfl⟩
theorem dX7_ifPlayed_51 : Dc cX7_ifPlayed 51 (.aload_n 0) 1 52 := ⟨by decide +kernel, rfl⟩
theorem dX7_ifPlayed_52 : Dc cX7_ifPlayed 52 (.getfield 7) 3 55 := ⟨by decide +kernel, rfl⟩
theorem dX7_ifPlayed_55 : Dc cX7_ifPlayed 55 (.bipush 34) 2 57 := ⟨by decide +kernel, rfl⟩
theorem dX7_ifPlayed_57 : Dc cX7_ifPlayed 57 (.iaload) 1 58 := ⟨by decide +kernel, rfl⟩
theorem dX7_ifPlayed_58 : Dc cX7_ifPlayed 58 (.aload_n 0) 1 59 := ⟨by decide +kernel, rfl⟩
theorem dX7_ifPlayed_59 : Dc cX7_ifPlayed 59 (.getfield 13) 3 62 := ⟨by decide +kernel, rfl⟩
theorem dX7_ifPlayed_62 : Dc cX7_ifPlayed 62 (.bipush 34) 2 64 := ⟨by decide +kernel, rfl⟩
theorem dX7_ifPlayed_64 : Dc cX7_ifPlayed 64 (.iaload) 1 65 := ⟨by decide +kernel, rfl⟩
theorem dX7_ifPlayed_65 : Dc cX7_ifPlayed 65 (.isub) 1 66 := ⟨by decide +kernel, rfl⟩
theorem dX7_ifPlayed_66 : Dc cX7_ifPlayed 66 (.istore 4) 2 68 := ⟨by decide +kernel, rfl⟩
theorem dX7_ifPlayed_68 : Dc cX7_ifPlayed 68 (.aload_n 0) 1 69 := ⟨by decide +kernel, rfl⟩
theorem dX7_ifPlayed_69 : Dc cX7_ifPlayed 69 (.iload 4) 2 71 := ⟨by decide +kernel, rfl⟩
theorem dX7_ifPlayed_71 : Dc cX7_ifPlayed 71 (.invokevirtual 150) 3 74 := ⟨by decide +kernel, rfl⟩
theorem dX7_ifPlayed_74 : Dc cX7_ifPlayed 74 (.aload_n 0) 1 75 := ⟨by decide +kernel, rfl⟩
theorem dX7_ifPlayed_75 : Dc cX7_ifPlayed 75 (.getfield 7) 3 78 := ⟨by decide +kernel, rfl⟩
theorem dX7_ifPlayed_78 : Dc cX7_ifPlayed 78 (.bipush 35) 2 80 := ⟨by decide +kernel, rfl⟩
theorem dX7_ifPlayed_80 : Dc cX7_ifPlayed 80 (.iaload) 1 81 := ⟨by decide +kernel, rfl⟩
theorem dX7_ifPlayed_81 : Dc cX7_ifPlayed 81 (.isub) 1 82 := ⟨by decide +kernel, rfl⟩
theorem dX7_ifPlayed_82 : Dc cX7_ifPlayed 82 (.aload_n 0) 1 83 := ⟨by decide +kernel, rfl⟩
theorem dX7_ifPlayed_83 : Dc cX7_ifPlayed 83 (.getfield 13) 3 86 := ⟨by decide +kernel, rfl⟩
theorem dX7_ifPlayed_86 : Dc cX7_ifPlayed 86 (.bipush 35) 2 88 := ⟨by decide +kernel, rfl⟩
theorem dX7_ifPlayed_88 : Dc cX7_ifPlayed 88 (.iaload) 1 89 := ⟨by decide +kernel, rfl⟩
theorem dX7_ifPlayed_89 : Dc cX7_ifPlayed 89 (.iadd) 1 90 := ⟨by decide +kernel, rfl⟩
theorem dX7_ifPlayed_90 : Dc cX7_ifPlayed 90 (.istore 5) 2 92 := ⟨by decide +kernel, rfl⟩
theorem dX7_ifPlayed_92 : Dc cX7_ifPlayed 92 (.iload_n 3) 1 93 := ⟨by decide +kernel, rfl⟩
theorem dX7_ifPlayed_93 : Db cX7_ifPlayed 93 (fun o => .ifCond .ne o) 96 101 := ⟨8, by decide +kernel, rfl, rfl⟩
theorem dX7_ifPlayed_96 : Dc cX7_ifPlayed 96 (.iload 4) 2 98 := ⟨by decide +kernel, rfl⟩
theorem dX7_ifPlayed_98 : Db cX7_ifPlayed 98 .goto 101 145 := ⟨47, by decide +kernel, rfl, rfl⟩
theorem dX7_ifPlayed_101 : Dc cX7_ifPlayed 101 (.iload_n 3) 1 102 := ⟨by decide +kernel, rfl⟩
theorem dX7_ifPlayed_102 : Dc cX7_ifPlayed 102 (.iconst 1) 1 103 := ⟨by decide +kernel, rfl⟩
theorem dX7_ifPlayed_103 : Db cX7_ifPlayed 103 (fun o => .if_icmp .ne o) 106 116 := ⟨13, by decide +kernel, rfl, rfl⟩
theorem dX7_ifPlayed_106 : Dc cX7_ifPlayed 106 (.aload_n 0) 1 107 := ⟨by decide +kernel, rfl⟩
theorem dX7_ifPlayed_107 : Dc cX7_ifPlayed 107 (.getfield 7) 3 110 := ⟨by decide +kernel, rfl⟩
theorem dX7_ifPlayed_110 : Dc cX7_ifPlayed 110 (.bipush 37) 2 112 := ⟨by decide +kernel, rfl⟩
theorem dX7_ifPlayed_112 : Dc cX7_ifPlayed 112 (.iaload) 1 113 := ⟨by decide +kernel, rfl⟩
theorem dX7_ifPlayed_113 : Db cX7_ifPlayed 113 .goto 116 145 := ⟨32, by decide +kernel, rfl, rfl⟩
theorem dX7_ifPlayed_116 : Dc cX7_ifPlayed 116 (.iload_n 3) 1 117 := ⟨by decide +kernel, rfl⟩
theorem dX7_ifPlayed_117 : Dc cX7_ifPlayed 117 (.iconst 2) 1 118 := ⟨by decide +kernel, rfl⟩
theorem dX7_ifPlayed_118 : Db cX7_ifPlayed 118 (fun o => .if_icmp .ne o) 121 128 := ⟨10, by decide +kernel, rfl, rfl⟩
theorem dX7_ifPlayed_121 : Dc cX7_ifPlayed 121 (.aload_n 0) 1 122 := ⟨by decide +kernel, rfl⟩
theorem dX7_ifPlayed_122 : Dc cX7_ifPlayed 122 (.invokevirtual 141) 3 125 := ⟨by decide +kernel, rfl⟩
theorem dX7_ifPlayed_125 : Db cX7_ifPlayed 125 .goto 128 145 := ⟨20, by decide +kernel, rfl, rfl⟩
theorem dX7_ifPlayed_128 : Dc cX7_ifPlayed 128 (.iload_n 3) 1 129 := ⟨by decide +kernel, rfl⟩
theorem dX7_ifPlayed_129 : Dc cX7_ifPlayed 129 (.iconst 3) 1 130 := ⟨by decide +kernel, rfl⟩
theorem dX7_ifPlayed_130 : Db cX7_ifPlayed 130 (fun o => .if_icmp .ne o) 133 143 := ⟨13, by decide +kernel, rfl, rfl⟩
theorem dX7_ifPlayed_133 : Dc cX7_ifPlayed 133 (.aload_n 0) 1 134 := ⟨by decide +kernel, rfl⟩
theorem dX7_ifPlayed_134 : Dc cX7_ifPlayed 134 (.getfield 7) 3 137 := ⟨by decide +kernel, rfl⟩
theorem dX7_ifPlayed_137 : Dc cX7_ifPlayed 137 (.bipush 30) 2 139 := ⟨by decide +kernel, rfl⟩
theorem dX7_ifPlayed_139 : Dc cX7_ifPlayed 139 (.iaload) 1 140 := ⟨by decide +kernel, rfl⟩
theorem dX7_ifPlayed_140 : Db cX7_ifPlayed 140 .goto 143 145 := ⟨5, by decide +kernel, rfl, rfl⟩
theorem dX7_ifPlayed_143 : Dc cX7_ifPlayed 143 (.iload 5) 2 145 := ⟨by decide +kernel, rfl⟩
theorem dX7_ifPlayed_145 : Dc cX7_ifPlayed 145 (.istore 6) 2 147 := ⟨by decide +kernel, rfl⟩
theorem dX7_ifPlayed_147 : Dc cX7_ifPlayed 147 (.aload_n 0) 1 148 := ⟨by decide +kernel, rfl⟩
theorem dX7_ifPlayed_148 : Dc cX7_ifPlayed 148 (.getfield 13) 3 151 := ⟨by decide +kernel, rfl⟩
theorem dX7_ifPlayed_151 : Dc cX7_ifPlayed 151 (.iconst 0) 1 152 := ⟨by decide +kernel, rfl⟩
theorem dX7_ifPlayed_152 : Dc cX7_ifPlayed 152 (.aload_n 0) 1 153 := ⟨by decide +kernel, rfl⟩
theorem dX7_ifPlayed_153 : Dc cX7_ifPlayed 153 (.getfield 7) 3 156 := ⟨by decide +kernel, rfl⟩
theorem dX7_ifPlayed_156 : Dc cX7_ifPlayed 156 (.iconst 0) 1 157 := ⟨by decide +kernel, rfl⟩
theorem dX7_ifPlayed_157 : Dc cX7_ifPlayed 157 (.invokestatic 45) 3 160 := ⟨by decide +kernel, rfl⟩
theorem dX7_ifPlayed_160 : Dc cX7_ifPlayed 160 (.iload 6) 2 162 := ⟨by decide +kernel, rfl⟩
theorem dX7_ifPlayed_162 : Dc cX7_ifPlayed 162 (.ireturn) 1 163 := ⟨by decide +kernel, rfl⟩
theorem dX7_fewestTurns_0 : Dc cX7_fewestTurns 0 (.aload_n 0) 1 1 := ⟨by decide +kernel, rfl⟩
theorem dX7_fewestTurns_1 : Dc cX7_fewestTurns 1 (.iload_n 1) 1 2 := ⟨by decide +kernel, rfl⟩
theorem dX7_fewestTurns_2 : Dc cX7_fewestTurns 2 (.invokevirtual 92) 3 5 := ⟨by decide +kernel, rfl⟩
theorem dX7_fewestTurns_5 : Db cX7_fewestTurns 5 (fun o => .ifCond .eq o) 8 18 := ⟨13, by decide +kernel, rfl, rfl⟩
theorem dX7_fewestTurns_8 : Dc cX7_fewestTurns 8 (.iload_n 2) 1 9 := ⟨by decide +kernel, rfl⟩
theorem dX7_fewestTurns_9 : Dc cX7_fewestTurns 9 (.iconst 0) 1 10 := ⟨by decide +kernel, rfl⟩
theorem dX7_fewestTurns_10 : Dc cX7_fewestTurns 10 (.bipush 29) 2 12 := ⟨by decide +kernel, rfl⟩
theorem dX7_fewestTurns_12 : Dc cX7_fewestTurns 12 (.invokestatic 37) 3 15 := ⟨by decide +kernel, rfl⟩
theorem dX7_fewestTurns_15 : Db cX7_fewestTurns 15 (fun o => .ifCond .ne o) 18 20 := ⟨5, by decide +kernel, rfl, rfl⟩
theorem dX7_fewestTurns_18 : Dc cX7_fewestTurns 18 (.iconst (-1)) 1 19 := ⟨by decide +kernel, rfl⟩
theorem dX7_fewestTurns_19 : Dc cX7_fewestTurns 19 (.ireturn) 1 20 := ⟨by decide +kernel, rfl⟩
theorem dX7_fewestTurns_20 : Dc cX7_fewestTurns 20 (.iload_n 3) 1 21 := ⟨by decide +kernel, rfl⟩
theorem dX7_fewestTurns_21 : Dc cX7_fewestTurns 21 (.iconst 0) 1 22 := ⟨by decide +kernel, rfl⟩
theorem dX7_fewestTurns_22 : Dc cX7_fewestTurns 22 (.bipush 99) 2 24 := ⟨by decide +kernel, rfl⟩
theorem dX7_fewestTurns_24 : Dc cX7_fewestTurns 24 (.invokestatic 37) 3 27 := ⟨by decide +kernel, rfl⟩
theorem dX7_fewestTurns_27 : Db cX7_fewestTurns 27 (fun o => .ifCond .ne o) 30 33 := ⟨6, by decide +kernel, rfl, rfl⟩
theorem dX7_fewestTurns_30 : Dc cX7_fewestTurns 30 (.bipush (-2)) 2 32 := ⟨by decide +kernel, rfl⟩
theorem dX7_fewestTurns_32 : Dc cX7_fewestTurns 32 (.ireturn) 1 33 := ⟨by decide +kernel, rfl⟩
theorem dX7_fewestTurns_33 : Dc cX7_fewestTurns 33 (.aload_n 0) 1 34 := ⟨by decide +kernel, rfl⟩
theorem dX7_fewestTurns_34 : Dc cX7_fewestTurns 34 (.getfield 7) 3 37 := ⟨by decide +kernel, rfl⟩
theorem dX7_fewestTurns_37 : Dc cX7_fewestTurns 37 (.iconst 0) 1 38 := ⟨by decide +kernel, rfl⟩
theorem dX7_fewestTurns_38 : Dc cX7_fewestTurns 38 (.aload_n 0) 1 39 := ⟨by decide +kernel, rfl⟩
theorem dX7_fewestTurns_39 : Dc cX7_fewestTurns 39 (.getfield 13) 3 42 := ⟨by decide +kernel, rfl⟩
theorem dX7_fewestTurns_42 : Dc cX7_fewestTurns 42 (.iconst 0) 1 43 := ⟨by decide +kernel, rfl⟩
theorem dX7_fewestTurns_43 : Dc cX7_fewestTurns 43 (.invokestatic 45) 3 46 := ⟨by decide +kernel, rfl⟩
theorem dX7_fewestTurns_46 : Dc cX7_fewestTurns 46 (.aload_n 0) 1 47 := ⟨by decide +kernel, rfl⟩
theorem dX7_fewestTurns_47 : Dc cX7_fewestTurns 47 (.iload_n 1) 1 48 := ⟨by decide +kernel, rfl⟩
theorem dX7_fewestTurns_48 : Dc cX7_fewestTurns 48 (.invokevirtual 101) 3 51 := ⟨by decide +kernel, rfl⟩
theorem dX7_fewestTurns_51 : Dc cX7_fewestTurns 51 (.bipush (-5)) 2 53 := ⟨by decide +kernel, rfl⟩
theorem dX7_fewestTurns_53 : Dc cX7_fewestTurns 53 (.istore 4) 2 55 := ⟨by decide +kernel, rfl⟩
theorem dX7_fewestTurns_55 : Dc cX7_fewestTurns 55 (.iconst 0) 1 56 := ⟨by decide +kernel, rfl⟩
theorem dX7_fewestTurns_56 : Dc cX7_fewestTurns 56 (.istore 5) 2 58 := ⟨by decide +kernel, rfl⟩
theorem dX7_fewestTurns_58 : Dc cX7_fewestTurns 58 (.iconst 0) 1 59 := ⟨by decide +kernel, rfl⟩
theorem dX7_fewestTurns_59 : Dc cX7_fewestTurns 59 (.istore 6) 2 61 := ⟨by decide +kernel, rfl⟩
theorem dX7_fewestTurns_61 : Dc cX7_fewestTurns 61 (.iload 6) 2 63 := ⟨by decide +kernel, rfl⟩
theorem dX7_fewestTurns_63 : Dc cX7_fewestTurns 63 (.bipush 99) 2 65 := ⟨by decide +kernel, rfl⟩
theorem dX7_fewestTurns_65 : Db cX7_fewestTurns 65 (fun o => .if_icmp .ge o) 68 115 := ⟨50, by decide +kernel, rfl, rfl⟩
theorem dX7_fewestTurns_68 : Dc cX7_fewestTurns 68 (.iload 5) 2 70 := ⟨by decide +kernel, rfl⟩
theorem dX7_fewestTurns_70 : Db cX7_fewestTurns 70 (fun o => .ifCond .ne o) 73 115 := ⟨45, by decide +kernel, rfl, rfl⟩
theorem dX7_fewestTurns_73 : Dc cX7_fewestTurns 73 (.iload 4) 2 75 := ⟨by decide +kernel, rfl⟩
theorem dX7_fewestTurns_75 : Dc cX7_fewestTurns 75 (.bipush (-5)) 2 77 := ⟨by decide +kernel, rfl⟩
theorem dX7_fewestTurns_77 : Db cX7_fewestTurns 77 (fun o => .if_icmp .ne o) 80 115 := ⟨38, by decide +kernel, rfl, rfl⟩
theorem dX7_fewestTurns_80 : Dc cX7_fewestTurns 80 (.aload_n 0) 1 81 := ⟨by decide +kernel, rfl⟩
theorem dX7_fewestTurns_81 : Dc cX7_fewestTurns 81 (.iload 6) 2 83 := ⟨by decide +kernel, rfl⟩
theorem dX7_fewestTurns_83 : Dc cX7_fewestTurns 83 (.invokevirtual 98) 3 86 := ⟨by decide +kernel, rfl⟩
theorem dX7_fewestTurns_86 : Dc cX7_fewestTurns 86 (.istore 5) 2 88 := ⟨by decide +kernel, rfl⟩
theorem dX7_fewestTurns_88 : Dc cX7_fewestTurns 88 (.aload_n 0) 1 89 := ⟨by decide +kernel, rfl⟩
theorem dX7_fewestTurns_89 : Dc cX7_fewestTurns 89 (.getfield 7) 3 92 := ⟨by decide +kernel, rfl⟩
theorem dX7_fewestTurns_92 : Dc cX7_fewestTurns 92 (.iload_n 2) 1 93 := ⟨by decide +kernel, rfl⟩
theorem dX7_fewestTurns_93 : Dc cX7_fewestTurns 93 (.iaload) 1 94 := ⟨by decide +kernel, rfl⟩
theorem dX7_fewestTurns_94 : Dc cX7_fewestTurns 94 (.iload_n 3) 1 95 := ⟨by decide +kernel, rfl⟩
theorem dX7_fewestTurns_95 : Db cX7_fewestTurns 95 (fun o => .if_icmp .ne o) 98 105 := ⟨10, by decide +kernel, rfl, rfl⟩
theorem dX7_fewestTurns_98 : Dc cX7_fewestTurns 98 (.iload 6) 2 100 := ⟨by decide +kernel, rfl⟩
theorem dX7_fewestTurns_100 : Dc cX7_fewestTurns 100 (.iconst 1) 1 101 := ⟨by decide +kernel, rfl⟩
theorem dX7_fewestTurns_101 : Dc cX7_fewestTurns 101 (.iadd) 1 102 := ⟨by decide +kernel, rfl⟩
theorem dX7_fewestTurns_102 : Db cX7_fewestTurns 102 .goto 105 107 := ⟨5, by decide +kernel, rfl, rfl⟩
theorem dX7_fewestTurns_105 : Dc cX7_fewestTurns 105 (.bipush (-5)) 2 107 := ⟨by decide +kernel, rfl⟩
theorem dX7_fewestTurns_107 : Dc cX7_fewestTurns 107 (.istore 4) 2 109 := ⟨by decide +kernel, rfl⟩
theorem dX7_fewestTurns_109 : Dc cX7_fewestTurns 109 (.iinc 6 1) 3 112 := ⟨by decide +kernel, rfl⟩
theorem dX7_fewestTurns_112 : Db cX7_fewestTurns 112 .goto 115 61 := ⟨-51, by decide +kernel, rfl, rfl⟩
theorem dX7_fewestTurns_115 : Dc cX7_fewestTurns 115 (.aload_n 0) 1 116 := ⟨by decide +kernel, rfl⟩
theorem dX7_fewestTurns_116 : Dc cX7_fewestTurns 116 (.getfield 13) 3 119 := ⟨by decide +kernel, rfl⟩
theorem dX7_fewestTurns_119 : Dc cX7_fewestTurns 119 (.iconst 0) 1 120 := ⟨by decide +kernel, rfl⟩
theorem dX7_fewestTurns_120 : Dc cX7_fewestTurns 120 (.aload_n 0) 1 121 := ⟨by decide +kernel, rfl⟩
theorem dX7_fewestTurns_121 : Dc cX7_fewestTurns 121 (.getfield 7) 3 124 := ⟨by decide +kernel, rfl⟩
theorem dX7_fewestTurns_124 : Dc cX7_fewestTurns 124 (.iconst 0) 1 125 := ⟨by decide +kernel, rfl⟩
theorem dX7_fewestTurns_125 : Dc cX7_fewestTurns 125 (.invokestatic 45) 3 128 := ⟨by decide +kernel, rfl⟩
theorem dX7_fewestTurns_128 : Dc cX7_fewestTurns 128 (.iload 4) 2 130 := ⟨by decide +kernel, rfl⟩
theorem dX7_fewestTurns_130 : Dc cX7_fewestTurns 130 (.ireturn) 1 131 := ⟨by decide +kernel, rfl⟩
end
section
theorem dL_law_0 : Dc cL_law 0 (.new 7) 3 3 := ⟨by decide +kernel, rfl⟩
theorem dL_law_3 : Dc cL_law 3 (.dup) 1 4 := ⟨by decide +kernel, rfl⟩
theorem dL_law_4 : Dc cL_law 4 (.invokespecial 9) 3 7 := ⟨by decide +kernel, rfl⟩
theorem dL_law_7 : Dc cL_law 7 (.astore_n 1) 1 8 := ⟨by decide +kernel, rfl⟩
theorem dL_law_8 : Dc cL_law 8 (.new 10) 3 11 := ⟨by decide +kernel, rfl⟩
theorem dL_law_11 : Dc cL_law 11 (.dup) 1 12 := ⟨by decide +kernel, rfl⟩
theorem dL_law_12 : Dc cL_law 12 (.invokespecial 12) 3 15 := ⟨by decide +kernel, rfl⟩
theorem dL_law_15 : Dc cL_law 15 (.astore_n 2) 1 16 := ⟨by decide +kernel, rfl⟩
theorem dL_law_16 : Dc cL_law 16 (.iconst 0) 1 17 := ⟨by decide +kernel, rfl⟩
theorem dL_law_17 : Dc cL_law 17 (.istore_n 3) 1 18 := ⟨by decide +kernel, rfl⟩
theorem dL_law_18 : Dc cL_law 18 (.iload_n 3) 1 19 := ⟨by decide +kernel, rfl⟩
theorem dL_law_19 : Dc cL_law 19 (.aload_n 0) 1 20 := ⟨by decide +kernel, rfl⟩
theorem dL_law_20 : Dc cL_law 20 (.arraylength) 1 21 := ⟨by decide +kernel, rfl⟩
theorem dL_law_21 : Dc cL_law 21 (.iconst 4) 1 22 := ⟨by decide +kernel, rfl⟩
theorem dL_law_22 : Dc cL_law 22 (.isub) 1 23 := ⟨by decide +kernel, rfl⟩
theorem dL_law_23 : Db cL_law 23 (fun o => .if_icmp .gt o) 26 838 := ⟨815, by decide +kernel, rfl, rfl⟩
theorem dL_law_26 : Dc cL_law 26 (.aload_n 0) 1 27 := ⟨by decide +kernel, rfl⟩
theorem dL_law_27 : Dc cL_law 27 (.iload_n 3) 1 28 := ⟨by decide +kernel, rfl⟩
theorem dL_law_28 : Dc cL_law 28 (.iaload) 1 29 := ⟨by decide +kernel, rfl⟩
theorem dL_law_29 : Dc cL_law 29 (.bipush 31) 2 31 := ⟨by decide +kernel, rfl⟩
theorem dL_law_31 : Dc cL_law 31 (.iand) 1 32 := ⟨by decide +kernel, rfl⟩
theorem dL_law_32 : decode cL_law 32 = .ok (.tableswitch 800 0 25 #[120, 153, 166, 179, 202, 235, 258, 291, 314, 337, 362, 375, 388, 401, 414, 427, 450, 493, 536, 569, 592, 635, 658, 691, 714, 757], 120) := by decide +kernel
theorem dL_law_152 : Dc cL_law 152 (.aload_n 1) 1 153 := ⟨by decide +kernel, rfl⟩
theorem dL_law_153 : Dc cL_law 153 (.aload_n 0) 1 154 := ⟨by decide +kernel, rfl⟩
theorem dL_law_154 : Dc cL_law 154 (.iload_n 3) 1 155 := ⟨by decide +kernel, rfl⟩
theorem dL_law_155 : Dc cL_law 155 (.iconst 1) 1 156 := ⟨by decide +kernel, rfl⟩
theorem dL_law_156 : Dc cL_law 156 (.iadd) 1 157 := ⟨by decide +kernel, rfl⟩
theorem dL_law_157 : Dc cL_law 157 (.iaload) 1 158 := ⟨by decide +kernel, rfl⟩
theorem dL_law_158 : Dc cL_law 158 (.aload_n 0) 1 159 := ⟨by decide +kernel, rfl⟩
theorem dL_law_159 : Dc cL_law 159 (.iload_n 3) 1 160 := ⟨by decide +kernel, rfl⟩
theorem dL_law_160 : Dc cL_law 160 (.iconst 2) 1 161 := ⟨by decide +kernel, rfl⟩
theorem dL_law_161 : Dc cL_law 161 (.iadd) 1 162 := ⟨by decide +kernel, rfl⟩
theorem dL_law_162 : Dc cL_law 162 (.iaload) 1 163 := ⟨by decide +kernel, rfl⟩
theorem dL_law_163 : Dc cL_law 163 (.invokevirtual 13) 3 166 := ⟨by decide +kernel, rfl⟩
theorem dL_law_166 : Dc cL_law 166 (.aload_n 2) 1 167 := ⟨by decide +kernel, rfl⟩
theorem dL_law_167 : Dc cL_law 167 (.aload_n 0) 1 168 := ⟨by decide +kernel, rfl⟩
theorem dL_law_168 : Dc cL_law 168 (.iload_n 3) 1 169 := ⟨by decide +kernel, rfl⟩
theorem dL_law_169 : Dc cL_law 169 (.iconst 1) 1 170 := ⟨by decide +kernel, rfl⟩
theorem dL_law_170 : Dc cL_law 170 (.iadd) 1 171 := ⟨by decide +kernel, rfl⟩
theorem dL_law_171 : Dc cL_law 171 (.iaload) 1 172 := ⟨by decide +kernel, rfl⟩
theorem dL_law_172 : Dc cL_law 172 (.aload_n 0) 1 173 := ⟨by decide +kernel, rfl⟩
theorem dL_law_173 : Dc cL_law 173 (.iload_n 3) 1 174 := ⟨by decide +kernel, rfl⟩
theorem dL_law_174 : Dc cL_law 174 (.iconst 2) 1 175 := ⟨by decide +kernel, rfl⟩
theorem dL_law_175 : Dc cL_law 175 (.iadd) 1 176 := ⟨by decide +kernel, rfl⟩
theorem dL_law_176 : Dc cL_law 176 (.iaload) 1 177 := ⟨by decide +kernel, rfl⟩
theorem dL_law_177 : Dc cL_law 177 (.invokevirtual 17) 3 180 := ⟨by decide +kernel, rfl⟩
theorem dL_law_180 : Db cL_law 180 (fun o => .if_icmp .eq o) 183 832 := ⟨652, by decide +kernel, rfl, rfl⟩
theorem dL_law_183 : Dc cL_law 183 (.iconst 0) 1 184 := ⟨by decide +kernel, rfl⟩
theorem dL_law_184 : Dc cL_law 184 (.ireturn) 1 185 := ⟨by decide +kernel, rfl⟩
theorem dL_law_185 : Dc cL_law 185 (.aload_n 1) 1 186 := ⟨by decide +kernel, rfl⟩
theorem dL_law_186 : Dc cL_law 186 (.invokevirtual 18) 3 189 := ⟨by decide +kernel, rfl⟩
theorem dL_law_189 : Dc cL_law 189 (.aload_n 2) 1 190 := ⟨by decide +kernel, rfl⟩
theorem dL_law_190 : Dc cL_law 190 (.invokevirtual 22) 3 193 := ⟨by decide +kernel, rfl⟩
theorem dL_law_193 : Db cL_law 193 (fun o => .if_icmp .eq o) 196 832 := ⟨639, by decide +kernel, rfl, rfl⟩
theorem dL_law_196 : Dc cL_law 196 (.iconst 0) 1 197 := ⟨by decide +kernel, rfl⟩
theorem dL_law_197 : Dc cL_law 197 (.ireturn) 1 198 := ⟨by decide +kernel, rfl⟩
theorem dL_law_198 : Dc cL_law 198 (.aload_n 1) 1 199 := ⟨by decide +kernel, rfl⟩
theorem dL_law_199 : Dc cL_law 199 (.invokevirtual 23) 3 202 := ⟨by decide +kernel, rfl⟩
theorem dL_law_202 : Dc cL_law 202 (.aload_n 2) 1 203 := ⟨by decide +kernel, rfl⟩
theorem dL_law_203 : Dc cL_law 203 (.invokevirtual 26) 3 206 := ⟨by decide +kernel, rfl⟩
theorem dL_law_206 : Db cL_law 206 (fun o => .if_icmp .eq o) 209 832 := ⟨626, by decide +kernel, rfl, rfl⟩
theorem dL_law_209 : Dc cL_law 209 (.iconst 0) 1 210 := ⟨by decide +kernel, rfl⟩
theorem dL_law_210 : Dc cL_law 210 (.ireturn) 1 211 := ⟨by decide +kernel, rfl⟩
theorem dL_law_211 : Dc cL_law 211 (.aload_n 1) 1 212 := ⟨by decide +kernel, rfl⟩
theorem dL_law_212 : Dc cL_law 212 (.aload_n 0) 1 213 := ⟨by decide +kernel, rfl⟩
theorem dL_law_213 : Dc cL_law 213 (.iload_n 3) 1 214 := ⟨by decide +kernel, rfl⟩
theorem dL_law_214 : Dc cL_law 214 (.iconst 1) 1 215 := ⟨by decide +kernel, rfl⟩
theorem dL_law_215 : Dc cL_law 215 (.iadd) 1 216 := ⟨by decide +kernel, rfl⟩
theorem dL_law_216 : Dc cL_law 216 (.iaload) 1 217 := ⟨by decide +kernel, rfl⟩
theorem dL_law_217 : Dc cL_law 217 (.invokevirtual 27) 3 220 := ⟨by decide +kernel, rfl⟩
theorem dL_law_220 : Dc cL_law 220 (.aload_n 2) 1 221 := ⟨by decide +kernel, rfl⟩
theorem dL_law_221 : Dc cL_law 221 (.aload_n 0) 1 222 := ⟨by decide +kernel, rfl⟩
theorem dL_law_222 : Dc cL_law 222 (.iload_n 3) 1 223 := ⟨by decide +kernel, rfl⟩
theorem dL_law_223 : Dc cL_law 223 (.iconst 1) 1 224 := ⟨by decide +kernel, rfl⟩
theorem dL_law_224 : Dc cL_law 224 (.iadd) 1 225 := ⟨by decide +kernel, rfl⟩
theorem dL_law_225 : Dc cL_law 225 (.iaload) 1 226 := ⟨by decide +kernel, rfl⟩
theorem dL_law_226 : Dc cL_law 226 (.invokevirtual 31) 3 229 := ⟨by decide +kernel, rfl⟩
theorem dL_law_229 : Db cL_law 229 (fun o => .if_icmp .eq o) 232 832 := ⟨603, by decide +kernel, rfl, rfl⟩
theorem dL_law_232 : Dc cL_law 232 (.iconst 0) 1 233 := ⟨by decide +kernel, rfl⟩
theorem dL_law_233 : Dc cL_law 233 (.ireturn) 1 234 := ⟨by decide +kernel, rfl⟩
theorem dL_law_234 : Dc cL_law 234 (.aload_n 1) 1 235 := ⟨by decide +kernel, rfl⟩
theorem dL_law_235 : Dc cL_law 235 (.aload_n 0) 1 236 := ⟨by decide +kernel, rfl⟩
theorem dL_law_236 : Dc cL_law 236 (.iload_n 3) 1 237 := ⟨by decide +kernel, rfl⟩
theorem dL_law_237 : Dc cL_law 237 (.iconst 1) 1 238 := ⟨by decide +kernel, rfl⟩
theorem dL_law_238 : Dc cL_law 238 (.iadd) 1 239 := ⟨by decide +kernel, rfl⟩
theorem dL_law_239 : Dc cL_law 239 (.iaload) 1 240 := ⟨by decide +kernel, rfl⟩
theorem dL_law_240 : Dc cL_law 240 (.aload_n 0) 1 241 := ⟨by decide +kernel, rfl⟩
theorem dL_law_241 : Dc cL_law 241 (.iload_n 3) 1 242 := ⟨by decide +kernel, rfl⟩
theorem dL_law_242 : Dc cL_law 242 (.iconst 2) 1 243 := ⟨by decide +kernel, rfl⟩
theorem dL_law_243 : Dc cL_law 243 (.iadd) 1 244 := ⟨by decide +kernel, rfl⟩
theorem dL_law_244 : Dc cL_law 244 (.iaload) 1 245 := ⟨by decide +kernel, rfl⟩
theorem dL_law_245 : Dc cL_law 245 (.invokevirtual 32) 3 248 := ⟨by decide +kernel, rfl⟩
theorem dL_law_248 : Dc cL_law 248 (.aload_n 2) 1 249 := ⟨by decide +kernel, rfl⟩
theorem dL_law_249 : Dc cL_law 249 (.aload_n 0) 1 250 := ⟨by decide +kernel, rfl⟩
theorem dL_law_250 : Dc cL_law 250 (.iload_n 3) 1 251 := ⟨by decide +kernel, rfl⟩
theorem dL_law_251 : Dc cL_law 251 (.iconst 1) 1 252 := ⟨by decide +kernel, rfl⟩
theorem dL_law_252 : Dc cL_law 252 (.iadd) 1 253 := ⟨by decide +kernel, rfl⟩
theorem dL_law_253 : Dc cL_law 253 (.iaload) 1 254 := ⟨by decide +kernel, rfl⟩
theorem dL_law_254 : Dc cL_law 254 (.aload_n 0) 1 255 := ⟨by decide +kernel, rfl⟩
theorem dL_law_255 : Dc cL_law 255 (.iload_n 3) 1 256 := ⟨by decide +kernel, rfl⟩
theorem dL_law_256 : Dc cL_law 256 (.iconst 2) 1 257 := ⟨by decide +kernel, rfl⟩
theorem dL_law_257 : Dc cL_law 257 (.iadd) 1 258 := ⟨by decide +kernel, rfl⟩
theorem dL_law_258 : Dc cL_law 258 (.iaload) 1 259 := ⟨by decide +kernel, rfl⟩
theorem dL_law_259 : Dc cL_law 259 (.invokevirtual 35) 3 262 := ⟨by decide +kernel, rfl⟩
theorem dL_law_262 : Db cL_law 262 (fun o => .if_icmp .eq o) 265 832 := ⟨570, by decide +kernel, rfl, rfl⟩
theorem dL_law_265 : Dc cL_law 265 (.iconst 0) 1 266 := ⟨by decide +kernel, rfl⟩
theorem dL_law_266 : Dc cL_law 266 (.ireturn) 1 267 := ⟨by decide +kernel, rfl⟩
theorem dL_law_267 : Dc cL_law 267 (.aload_n 1) 1 268 := ⟨by decide +kernel, rfl⟩
theorem dL_law_268 : Dc cL_law 268 (.aload_n 0) 1 269 := ⟨by decide +kernel, rfl⟩
theorem dL_law_269 : Dc cL_law 269 (.iload_n 3) 1 270 := ⟨by decide +kernel, rfl⟩
theorem dL_law_270 : Dc cL_law 270 (.iconst 1) 1 271 := ⟨by decide +kernel, rfl⟩
theorem dL_law_271 : Dc cL_law 271 (.iadd) 1 272 := ⟨by decide +kernel, rfl⟩
theorem dL_law_272 : Dc cL_law 272 (.iaload) 1 273 := ⟨by decide +kernel, rfl⟩
theorem dL_law_273 : Dc cL_law 273 (.invokevirtual 36) 3 276 := ⟨by decide +kernel, rfl⟩
theorem dL_law_276 : Dc cL_law 276 (.aload_n 2) 1 277 := ⟨by decide +kernel, rfl⟩
theorem dL_law_277 : Dc cL_law 277 (.aload_n 0) 1 278 := ⟨by decide +kernel, rfl⟩
theorem dL_law_278 : Dc cL_law 278 (.iload_n 3) 1 279 := ⟨by decide +kernel, rfl⟩
theorem dL_law_279 : Dc cL_law 279 (.iconst 1) 1 280 := ⟨by decide +kernel, rfl⟩
theorem dL_law_280 : Dc cL_law 280 (.iadd) 1 281 := ⟨by decide +kernel, rfl⟩
theorem dL_law_281 : Dc cL_law 281 (.iaload) 1 282 := ⟨by decide +kernel, rfl⟩
theorem dL_law_282 : Dc cL_law 282 (.invokevirtual 39) 3 285 := ⟨by decide +kernel, rfl⟩
theorem dL_law_285 : Db cL_law 285 (fun o => .if_icmp .eq o) 288 832 := ⟨547, by decide +kernel, rfl, rfl⟩
theorem dL_law_288 : Dc cL_law 288 (.iconst 0) 1 289 := ⟨by decide +kernel, rfl⟩
theorem dL_law_289 : Dc cL_law 289 (.ireturn) 1 290 := ⟨by decide +kernel, rfl⟩
theorem dL_law_290 : Dc cL_law 290 (.aload_n 1) 1 291 := ⟨by decide +kernel, rfl⟩
theorem dL_law_291 : Dc cL_law 291 (.aload_n 0) 1 292 := ⟨by decide +kernel, rfl⟩
theorem dL_law_292 : Dc cL_law 292 (.iload_n 3) 1 293 := ⟨by decide +kernel, rfl⟩
theorem dL_law_293 : Dc cL_law 293 (.iconst 1) 1 294 := ⟨by decide +kernel, rfl⟩
theorem dL_law_294 : Dc cL_law 294 (.iadd) 1 295 := ⟨by decide +kernel, rfl⟩
theorem dL_law_295 : Dc cL_law 295 (.iaload) 1 296 := ⟨by decide +kernel, rfl⟩
theorem dL_law_296 : Dc cL_law 296 (.aload_n 0) 1 297 := ⟨by decide +kernel, rfl⟩
theorem dL_law_297 : Dc cL_law 297 (.iload_n 3) 1 298 := ⟨by decide +kernel, rfl⟩
theorem dL_law_298 : Dc cL_law 298 (.iconst 2) 1 299 := ⟨by decide +kernel, rfl⟩
theorem dL_law_299 : Dc cL_law 299 (.iadd) 1 300 := ⟨by decide +kernel, rfl⟩
theorem dL_law_300 : Dc cL_law 300 (.iaload) 1 301 := ⟨by decide +kernel, rfl⟩
theorem dL_law_301 : Dc cL_law 301 (.invokevirtual 40) 3 304 := ⟨by decide +kernel, rfl⟩
theorem dL_law_304 : Dc cL_law 304 (.aload_n 2) 1 305 := ⟨by decide +kernel, rfl⟩
theorem dL_law_305 : Dc cL_law 305 (.aload_n 0) 1 306 := ⟨by decide +kernel, rfl⟩
theorem dL_law_306 : Dc cL_law 306 (.iload_n 3) 1 307 := ⟨by decide +kernel, rfl⟩
theorem dL_law_307 : Dc cL_law 307 (.iconst 1) 1 308 := ⟨by decide +kernel, rfl⟩
theorem dL_law_308 : Dc cL_law 308 (.iadd) 1 309 := ⟨by decide +kernel, rfl⟩
theorem dL_law_309 : Dc cL_law 309 (.iaload) 1 310 := ⟨by decide +kernel, rfl⟩
theorem dL_law_310 : Dc cL_law 310 (.aload_n 0) 1 311 := ⟨by decide +kernel, rfl⟩
theorem dL_law_311 : Dc cL_law 311 (.iload_n 3) 1 312 := ⟨by decide +kernel, rfl⟩
theorem dL_law_312 : Dc cL_law 312 (.iconst 2) 1 313 := ⟨by decide +kernel, rfl⟩
theorem dL_law_313 : Dc cL_law 313 (.iadd) 1 314 := ⟨by decide +kernel, rfl⟩
theorem dL_law_314 : Dc cL_law 314 (.iaload) 1 315 := ⟨by decide +kernel, rfl⟩
theorem dL_law_315 : Dc cL_law 315 (.invokevirtual 43) 3 318 := ⟨by decide +kernel, rfl⟩
theorem dL_law_318 : Db cL_law 318 (fun o => .if_icmp .eq o) 321 832 := ⟨514, by decide +kernel, rfl, rfl⟩
theorem dL_law_321 : Dc cL_law 321 (.iconst 0) 1 322 := ⟨by decide +kernel, rfl⟩
theorem dL_law_322 : Dc cL_law 322 (.ireturn) 1 323 := ⟨by decide +kernel, rfl⟩
theorem dL_law_323 : Dc cL_law 323 (.aload_n 1) 1 324 := ⟨by decide +kernel, rfl⟩
theorem dL_law_324 : Dc cL_law 324 (.aload_n 0) 1 325 := ⟨by decide +kernel, rfl⟩
theorem dL_law_325 : Dc cL_law 325 (.iload_n 3) 1 326 := ⟨by decide +kernel, rfl⟩
theorem dL_law_326 : Dc cL_law 326 (.iconst 1) 1 327 := ⟨by decide +kernel, rfl⟩
theorem dL_law_327 : Dc cL_law 327 (.iadd) 1 328 := ⟨by decide +kernel, rfl⟩
theorem dL_law_328 : Dc cL_law 328 (.iaload) 1 329 := ⟨by decide +kernel, rfl⟩
theorem dL_law_329 : Dc cL_law 329 (.invokevirtual 44) 3 332 := ⟨by decide +kernel, rfl⟩
theorem dL_law_332 : Dc cL_law 332 (.aload_n 2) 1 333 := ⟨by decide +kernel, rfl⟩
theorem dL_law_333 : Dc cL_law 333 (.aload_n 0) 1 334 := ⟨by decide +kernel, rfl⟩
theorem dL_law_334 : Dc cL_law 334 (.iload_n 3) 1 335 := ⟨by decide +kernel, rfl⟩
theorem dL_law_335 : Dc cL_law 335 (.iconst 1) 1 336 := ⟨by decide +kernel, rfl⟩
theorem dL_law_336 : Dc cL_law 336 (.iadd) 1 337 := ⟨by decide +kernel, rfl⟩
theorem dL_law_337 : Dc cL_law 337 (.iaload) 1 338 := ⟨by decide +kernel, rfl⟩
theorem dL_law_338 : Dc cL_law 338 (.invokevirtual 47) 3 341 := ⟨by decide +kernel, rfl⟩
theorem dL_law_341 : Db cL_law 341 (fun o => .if_icmp .eq o) 344 832 := ⟨491, by decide +kernel, rfl, rfl⟩
theorem dL_law_344 : Dc cL_law 344 (.iconst 0) 1 345 := ⟨by decide +kernel, rfl⟩
theorem dL_law_345 : Dc cL_law 345 (.ireturn) 1 346 := ⟨by decide +kernel, rfl⟩
theorem dL_law_346 : Dc cL_law 346 (.aload_n 1) 1 347 := ⟨by decide +kernel, rfl⟩
theorem dL_law_347 : Dc cL_law 347 (.aload_n 0) 1 348 := ⟨by decide +kernel, rfl⟩
theorem dL_law_348 : Dc cL_law 348 (.iload_n 3) 1 349 := ⟨by decide +kernel, rfl⟩
theorem dL_law_349 : Dc cL_law 349 (.iconst 1) 1 350 := ⟨by decide +kernel, rfl⟩
theorem dL_law_350 : Dc cL_law 350 (.iadd) 1 351 := ⟨by decide +kernel, rfl⟩
theorem dL_law_351 : Dc cL_law 351 (.iaload) 1 352 := ⟨by decide +kernel, rfl⟩
theorem dL_law_352 : Dc cL_law 352 (.invokevirtual 48) 3 355 := ⟨by decide +kernel, rfl⟩
theorem dL_law_355 : Dc cL_law 355 (.aload_n 2) 1 356 := ⟨by decide +kernel, rfl⟩
theorem dL_law_356 : Dc cL_law 356 (.aload_n 0) 1 357 := ⟨by decide +kernel, rfl⟩
theorem dL_law_357 : Dc cL_law 357 (.iload_n 3) 1 358 := ⟨by decide +kernel, rfl⟩
theorem dL_law_358 : Dc cL_law 358 (.iconst 1) 1 359 := ⟨by decide +kernel, rfl⟩
theorem dL_law_359 : Dc cL_law 359 (.iadd) 1 360 := ⟨by decide +kernel, rfl⟩
theorem dL_law_360 : Dc cL_law 360 (.iaload) 1 361 := ⟨by decide +kernel, rfl⟩
theorem dL_law_361 : Dc cL_law 361 (.invokevirtual 51) 3 364 := ⟨by decide +kernel, rfl⟩
theorem dL_law_364 : Db cL_law 364 (fun o => .if_icmp .eq o) 367 832 := ⟨468, by decide +kernel, rfl, rfl⟩
theorem dL_law_367 : Dc cL_law 367 (.iconst 0) 1 368 := ⟨by decide +kernel, rfl⟩
theorem dL_law_368 : Dc cL_law 368 (.ireturn) 1 369 := ⟨by decide +kernel, rfl⟩
theorem dL_law_369 : Dc cL_law 369 (.aload_n 1) 1 370 := ⟨by decide +kernel, rfl⟩
theorem dL_law_370 : Dc cL_law 370 (.aload_n 0) 1 371 := ⟨by decide +kernel, rfl⟩
theorem dL_law_371 : Dc cL_law 371 (.iload_n 3) 1 372 := ⟨by decide +kernel, rfl⟩
theorem dL_law_372 : Dc cL_law 372 (.iconst 1) 1 373 := ⟨by decide +kernel, rfl⟩
theorem dL_law_373 : Dc cL_law 373 (.iadd) 1 374 := ⟨by decide +kernel, rfl⟩
theorem dL_law_374 : Dc cL_law 374 (.iaload) 1 375 := ⟨by decide +kernel, rfl⟩
theorem dL_law_375 : Dc cL_law 375 (.i2c) 1 376 := ⟨by decide +kernel, rfl⟩
theorem dL_law_376 : Dc cL_law 376 (.invokevirtual 52) 3 379 := ⟨by decide +kernel, rfl⟩
theorem dL_law_379 : Dc cL_law 379 (.aload_n 2) 1 380 := ⟨by decide +kernel, rfl⟩
theorem dL_law_380 : Dc cL_law 380 (.aload_n 0) 1 381 := ⟨by decide +kernel, rfl⟩
theorem dL_law_381 : Dc cL_law 381 (.iload_n 3) 1 382 := ⟨by decide +kernel, rfl⟩
theorem dL_law_382 : Dc cL_law 382 (.iconst 1) 1 383 := ⟨by decide +kernel, rfl⟩
theorem dL_law_383 : Dc cL_law 383 (.iadd) 1 384 := ⟨by decide +kernel, rfl⟩
theorem dL_law_384 : Dc cL_law 384 (.iaload) 1 385 := ⟨by decide +kernel, rfl⟩
theorem dL_law_385 : Dc cL_law 385 (.i2c) 1 386 := ⟨by decide +kernel, rfl⟩
theorem dL_law_386 : Dc cL_law 386 (.invokevirtual 56) 3 389 := ⟨by decide +kernel, rfl⟩
theorem dL_law_389 : Db cL_law 389 (fun o => .if_icmp .eq o) 392 832 := ⟨443, by decide +kernel, rfl, rfl⟩
theorem dL_law_392 : Dc cL_law 392 (.iconst 0) 1 393 := ⟨by decide +kernel, rfl⟩
theorem dL_law_393 : Dc cL_law 393 (.ireturn) 1 394 := ⟨by decide +kernel, rfl⟩
theorem dL_law_394 : Dc cL_law 394 (.aload_n 1) 1 395 := ⟨by decide +kernel, rfl⟩
theorem dL_law_395 : Dc cL_law 395 (.invokevirtual 57) 3 398 := ⟨by decide +kernel, rfl⟩
theorem dL_law_398 : Dc cL_law 398 (.aload_n 2) 1 399 := ⟨by decide +kernel, rfl⟩
theorem dL_law_399 : Dc cL_law 399 (.invokevirtual 60) 3 402 := ⟨by decide +kernel, rfl⟩
theorem dL_law_402 : Db cL_law 402 (fun o => .if_icmp .eq o) 405 832 := ⟨430, by decide +kernel, rfl, rfl⟩
theorem dL_law_405 : Dc cL_law 405 (.iconst 0) 1 406 := ⟨by decide +kernel, rfl⟩
theorem dL_law_406 : Dc cL_law 406 (.ireturn) 1 407 := ⟨by decide +kernel, rfl⟩
theorem dL_law_407 : Dc cL_law 407 (.aload_n 1) 1 408 := ⟨by decide +kernel, rfl⟩
theorem dL_law_408 : Dc cL_law 408 (.invokevirtual 61) 3 411 := ⟨by decide +kernel, rfl⟩
theorem dL_law_411 : Dc cL_law 411 (.aload_n 2) 1 412 := ⟨by decide +kernel, rfl⟩
theorem dL_law_412 : Dc cL_law 412 (.invokevirtual 64) 3 415 := ⟨by decide +kernel, rfl⟩
theorem dL_law_415 : Db cL_law 415 (fun o => .if_icmp .eq o) 418 832 := ⟨417, by decide +kernel, rfl, rfl⟩
theorem dL_law_418 : Dc cL_law 418 (.iconst 0) 1 419 := ⟨by decide +kernel, rfl⟩
theorem dL_law_419 : Dc cL_law 419 (.ireturn) 1 420 := ⟨by decide +kernel, rfl⟩
theorem dL_law_420 : Dc cL_law 420 (.aload_n 1) 1 421 := ⟨by decide +kernel, rfl⟩
theorem dL_law_421 : Dc cL_law 421 (.invokevirtual 65) 3 424 := ⟨by decide +kernel, rfl⟩
theorem dL_law_424 : Dc cL_law 424 (.aload_n 2) 1 425 := ⟨by decide +kernel, rfl⟩
theorem dL_law_425 : Dc cL_law 425 (.invokevirtual 68) 3 428 := ⟨by decide +kernel, rfl⟩
theorem dL_law_428 : Db cL_law 428 (fun o => .if_icmp .eq o) 431 832 := ⟨404, by decide +kernel, rfl, rfl⟩
theorem dL_law_431 : Dc cL_law 431 (.iconst 0) 1 432 := ⟨by decide +kernel, rfl⟩
theorem dL_law_432 : Dc cL_law 432 (.ireturn) 1 433 := ⟨by decide +kernel, rfl⟩
theorem dL_law_433 : Dc cL_law 433 (.aload_n 1) 1 434 := ⟨by decide +kernel, rfl⟩
theorem dL_law_434 : Dc cL_law 434 (.invokevirtual 69) 3 437 := ⟨by decide +kernel, rfl⟩
theorem dL_law_437 : Dc cL_law 437 (.aload_n 2) 1 438 := ⟨by decide +kernel, rfl⟩
theorem dL_law_438 : Dc cL_law 438 (.invokevirtual 72) 3 441 := ⟨by decide +kernel, rfl⟩
theorem dL_law_441 : Db cL_law 441 (fun o => .if_icmp .eq o) 444 832 := ⟨391, by decide +kernel, rfl, rfl⟩
theorem dL_law_444 : Dc cL_law 444 (.iconst 0) 1 445 := ⟨by decide +kernel, rfl⟩
theorem dL_law_445 : Dc cL_law 445 (.ireturn) 1 446 := ⟨by decide +kernel, rfl⟩
theorem dL_law_446 : Dc cL_law 446 (.aload_n 1) 1 447 := ⟨by decide +kernel, rfl⟩
theorem dL_law_447 : Dc cL_law 447 (.invokevirtual 73) 3 450 := ⟨by decide +kernel, rfl⟩
theorem dL_law_450 : Dc cL_law 450 (.aload_n 2) 1 451 := ⟨by decide +kernel, rfl⟩
theorem dL_law_451 : Dc cL_law 451 (.invokevirtual 76) 3 454 := ⟨by decide +kernel, rfl⟩
theorem dL_law_454 : Db cL_law 454 (fun o => .if_icmp .eq o) 457 832 := ⟨378, by decide +kernel, rfl, rfl⟩
theorem dL_law_457 : Dc cL_law 457 (.iconst 0) 1 458 := ⟨by decide +kernel, rfl⟩
theorem dL_law_458 : Dc cL_law 458 (.ireturn) 1 459 := ⟨by decide +kernel, rfl⟩
theorem dL_law_459 : Dc cL_law 459 (.aload_n 1) 1 460 := ⟨by decide +kernel, rfl⟩
theorem dL_law_460 : Dc cL_law 460 (.aload_n 0) 1 461 := ⟨by decide +kernel, rfl⟩
theorem dL_law_461 : Dc cL_law 461 (.iload_n 3) 1 462 := ⟨by decide +kernel, rfl⟩
theorem dL_law_462 : Dc cL_law 462 (.iconst 1) 1 463 := ⟨by decide +kernel, rfl⟩
theorem dL_law_463 : Dc cL_law 463 (.iadd) 1 464 := ⟨by decide +kernel, rfl⟩
theorem dL_law_464 : Dc cL_law 464 (.iaload) 1 465 := ⟨by decide +kernel, rfl⟩
theorem dL_law_465 : Dc cL_law 465 (.invokevirtual 77) 3 468 := ⟨by decide +kernel, rfl⟩
theorem dL_law_468 : Dc cL_law 468 (.aload_n 2) 1 469 := ⟨by decide +kernel, rfl⟩
theorem dL_law_469 : Dc cL_law 469 (.aload_n 0) 1 470 := ⟨by decide +kernel, rfl⟩
theorem dL_law_470 : Dc cL_law 470 (.iload_n 3) 1 471 := ⟨by decide +kernel, rfl⟩
theorem dL_law_471 : Dc cL_law 471 (.iconst 1) 1 472 := ⟨by decide +kernel, rfl⟩
theorem dL_law_472 : Dc cL_law 472 (.iadd) 1 473 := ⟨by decide +kernel, rfl⟩
theorem dL_law_473 : Dc cL_law 473 (.iaload) 1 474 := ⟨by decide +kernel, rfl⟩
theorem dL_law_474 : Dc cL_law 474 (.invokevirtual 80) 3 477 := ⟨by decide +kernel, rfl⟩
theorem dL_law_477 : Db cL_law 477 (fun o => .if_icmp .eq o) 480 832 := ⟨355, by decide +kernel, rfl, rfl⟩
theorem dL_law_480 : Dc cL_law 480 (.iconst 0) 1 481 := ⟨by decide +kernel, rfl⟩
theorem dL_law_481 : Dc cL_law 481 (.ireturn) 1 482 := ⟨by decide +kernel, rfl⟩
theorem dL_law_482 : Dc cL_law 482 (.aload_n 1) 1 483 := ⟨by decide +kernel, rfl⟩
theorem dL_law_483 : Dc cL_law 483 (.aload_n 0) 1 484 := ⟨by decide +kernel, rfl⟩
theorem dL_law_484 : Dc cL_law 484 (.iload_n 3) 1 485 := ⟨by decide +kernel, rfl⟩
theorem dL_law_485 : Dc cL_law 485 (.iconst 1) 1 486 := ⟨by decide +kernel, rfl⟩
theorem dL_law_486 : Dc cL_law 486 (.iadd) 1 487 := ⟨by decide +kernel, rfl⟩
theorem dL_law_487 : Dc cL_law 487 (.iaload) 1 488 := ⟨by decide +kernel, rfl⟩
theorem dL_law_488 : Dc cL_law 488 (.aload_n 0) 1 489 := ⟨by decide +kernel, rfl⟩
theorem dL_law_489 : Dc cL_law 489 (.iload_n 3) 1 490 := ⟨by decide +kernel, rfl⟩
theorem dL_law_490 : Dc cL_law 490 (.iconst 2) 1 491 := ⟨by decide +kernel, rfl⟩
theorem dL_law_491 : Dc cL_law 491 (.iadd) 1 492 := ⟨by decide +kernel, rfl⟩
theorem dL_law_492 : Dc cL_law 492 (.iaload) 1 493 := ⟨by decide +kernel, rfl⟩
theorem dL_law_493 : Dc cL_law 493 (.aload_n 0) 1 494 := ⟨by decide +kernel, rfl⟩
theorem dL_law_494 : Dc cL_law 494 (.iload_n 3) 1 495 := ⟨by decide +kernel, rfl⟩
theorem dL_law_495 : Dc cL_law 495 (.iconst 3) 1 496 := ⟨by decide +kernel, rfl⟩
theorem dL_law_496 : Dc cL_law 496 (.iadd) 1 497 := ⟨by decide +kernel, rfl⟩
theorem dL_law_497 : Dc cL_law 497 (.iaload) 1 498 := ⟨by decide +kernel, rfl⟩
theorem dL_law_498 : Dc cL_law 498 (.invokevirtual 81) 3 501 := ⟨by decide +kernel, rfl⟩
theorem dL_law_501 : Dc cL_law 501 (.aload_n 2) 1 502 := ⟨by decide +kernel, rfl⟩
theorem dL_law_502 : Dc cL_law 502 (.aload_n 0) 1 503 := ⟨by decide +kernel, rfl⟩
theorem dL_law_503 : Dc cL_law 503 (.iload_n 3) 1 504 := ⟨by decide +kernel, rfl⟩
theorem dL_law_504 : Dc cL_law 504 (.iconst 1) 1 505 := ⟨by decide +kernel, rfl⟩
theorem dL_law_505 : Dc cL_law 505 (.iadd) 1 506 := ⟨by decide +kernel, rfl⟩
theorem dL_law_506 : Dc cL_law 506 (.iaload) 1 507 := ⟨by decide +kernel, rfl⟩
theorem dL_law_507 : Dc cL_law 507 (.aload_n 0) 1 508 := ⟨by decide +kernel, rfl⟩
theorem dL_law_508 : Dc cL_law 508 (.iload_n 3) 1 509 := ⟨by decide +kernel, rfl⟩
theorem dL_law_509 : Dc cL_law 509 (.iconst 2) 1 510 := ⟨by decide +kernel, rfl⟩
theorem dL_law_510 : Dc cL_law 510 (.iadd) 1 511 := ⟨by decide +kernel, rfl⟩
theorem dL_law_511 : Dc cL_law 511 (.iaload) 1 512 := ⟨by decide +kernel, rfl⟩
theorem dL_law_512 : Dc cL_law 512 (.aload_n 0) 1 513 := ⟨by decide +kernel, rfl⟩
theorem dL_law_513 : Dc cL_law 513 (.iload_n 3) 1 514 := ⟨by decide +kernel, rfl⟩
theorem dL_law_514 : Dc cL_law 514 (.iconst 3) 1 515 := ⟨by decide +kernel, rfl⟩
theorem dL_law_515 : Dc cL_law 515 (.iadd) 1 516 := ⟨by decide +kernel, rfl⟩
theorem dL_law_516 : Dc cL_law 516 (.iaload) 1 517 := ⟨by decide +kernel, rfl⟩
theorem dL_law_517 : Dc cL_law 517 (.invokevirtual 85) 3 520 := ⟨by decide +kernel, rfl⟩
theorem dL_law_520 : Db cL_law 520 (fun o => .if_icmp .eq o) 523 832 := ⟨312, by decide +kernel, rfl, rfl⟩
theorem dL_law_523 : Dc cL_law 523 (.iconst 0) 1 524 := ⟨by decide +kernel, rfl⟩
theorem dL_law_524 : Dc cL_law 524 (.ireturn) 1 525 := ⟨by decide +kernel, rfl⟩
theorem dL_law_525 : Dc cL_law 525 (.aload_n 1) 1 526 := ⟨by decide +kernel, rfl⟩
theorem dL_law_526 : Dc cL_law 526 (.aload_n 0) 1 527 := ⟨by decide +kernel, rfl⟩
theorem dL_law_527 : Dc cL_law 527 (.iload_n 3) 1 528 := ⟨by decide +kernel, rfl⟩
theorem dL_law_528 : Dc cL_law 528 (.iconst 1) 1 529 := ⟨by decide +kernel, rfl⟩
theorem dL_law_529 : Dc cL_law 529 (.iadd) 1 530 := ⟨by decide +kernel, rfl⟩
theorem dL_law_530 : Dc cL_law 530 (.iaload) 1 531 := ⟨by decide +kernel, rfl⟩
theorem dL_law_531 : Dc cL_law 531 (.aload_n 0) 1 532 := ⟨by decide +kernel, rfl⟩
theorem dL_law_532 : Dc cL_law 532 (.iload_n 3) 1 533 := ⟨by decide +kernel, rfl⟩
theorem dL_law_533 : Dc cL_law 533 (.iconst 2) 1 534 := ⟨by decide +kernel, rfl⟩
theorem dL_law_534 : Dc cL_law 534 (.iadd) 1 535 := ⟨by decide +kernel, rfl⟩
theorem dL_law_535 : Dc cL_law 535 (.iaload) 1 536 := ⟨by decide +kernel, rfl⟩
theorem dL_law_536 : Dc cL_law 536 (.aload_n 0) 1 537 := ⟨by decide +kernel, rfl⟩
theorem dL_law_537 : Dc cL_law 537 (.iload_n 3) 1 538 := ⟨by decide +kernel, rfl⟩
theorem dL_law_538 : Dc cL_law 538 (.iconst 3) 1 539 := ⟨by decide +kernel, rfl⟩
theorem dL_law_539 : Dc cL_law 539 (.iadd) 1 540 := ⟨by decide +kernel, rfl⟩
theorem dL_law_540 : Dc cL_law 540 (.iaload) 1 541 := ⟨by decide +kernel, rfl⟩
theorem dL_law_541 : Dc cL_law 541 (.invokevirtual 86) 3 544 := ⟨by decide +kernel, rfl⟩
theorem dL_law_544 : Dc cL_law 544 (.aload_n 2) 1 545 := ⟨by decide +kernel, rfl⟩
theorem dL_law_545 : Dc cL_law 545 (.aload_n 0) 1 546 := ⟨by decide +kernel, rfl⟩
theorem dL_law_546 : Dc cL_law 546 (.iload_n 3) 1 547 := ⟨by decide +kernel, rfl⟩
theorem dL_law_547 : Dc cL_law 547 (.iconst 1) 1 548 := ⟨by decide +kernel, rfl⟩
theorem dL_law_548 : Dc cL_law 548 (.iadd) 1 549 := ⟨by decide +kernel, rfl⟩
theorem dL_law_549 : Dc cL_law 549 (.iaload) 1 550 := ⟨by decide +kernel, rfl⟩
theorem dL_law_550 : Dc cL_law 550 (.aload_n 0) 1 551 := ⟨by decide +kernel, rfl⟩
theorem dL_law_551 : Dc cL_law 551 (.iload_n 3) 1 552 := ⟨by decide +kernel, rfl⟩
theorem dL_law_552 : Dc cL_law 552 (.iconst 2) 1 553 := ⟨by decide +kernel, rfl⟩
theorem dL_law_553 : Dc cL_law 553 (.iadd) 1 554 := ⟨by decide +kernel, rfl⟩
theorem dL_law_554 : Dc cL_law 554 (.iaload) 1 555 := ⟨by decide +kernel, rfl⟩
theorem dL_law_555 : Dc cL_law 555 (.aload_n 0) 1 556 := ⟨by decide +kernel, rfl⟩
theorem dL_law_556 : Dc cL_law 556 (.iload_n 3) 1 557 := ⟨by decide +kernel, rfl⟩
theorem dL_law_557 : Dc cL_law 557 (.iconst 3) 1 558 := ⟨by decide +kernel, rfl⟩
theorem dL_law_558 : Dc cL_law 558 (.iadd) 1 559 := ⟨by decide +kernel, rfl⟩
theorem dL_law_559 : Dc cL_law 559 (.iaload) 1 560 := ⟨by decide +kernel, rfl⟩
theorem dL_law_560 : Dc cL_law 560 (.invokevirtual 89) 3 563 := ⟨by decide +kernel, rfl⟩
theorem dL_law_563 : Db cL_law 563 (fun o => .if_icmp .eq o) 566 832 := ⟨269, by decide +kernel, rfl, rfl⟩
theorem dL_law_566 : Dc cL_law 566 (.iconst 0) 1 567 := ⟨by decide +kernel, rfl⟩
theorem dL_law_567 : Dc cL_law 567 (.ireturn) 1 568 := ⟨by decide +kernel, rfl⟩
theorem dL_law_568 : Dc cL_law 568 (.aload_n 1) 1 569 := ⟨by decide +kernel, rfl⟩
theorem dL_law_569 : Dc cL_law 569 (.aload_n 0) 1 570 := ⟨by decide +kernel, rfl⟩
theorem dL_law_570 : Dc cL_law 570 (.iload_n 3) 1 571 := ⟨by decide +kernel, rfl⟩
theorem dL_law_571 : Dc cL_law 571 (.iconst 1) 1 572 := ⟨by decide +kernel, rfl⟩
theorem dL_law_572 : Dc cL_law 572 (.iadd) 1 573 := ⟨by decide +kernel, rfl⟩
theorem dL_law_573 : Dc cL_law 573 (.iaload) 1 574 := ⟨by decide +kernel, rfl⟩
theorem dL_law_574 : Dc cL_law 574 (.aload_n 0) 1 575 := ⟨by decide +kernel, rfl⟩
theorem dL_law_575 : Dc cL_law 575 (.iload_n 3) 1 576 := ⟨by decide +kernel, rfl⟩
theorem dL_law_576 : Dc cL_law 576 (.iconst 2) 1 577 := ⟨by decide +kernel, rfl⟩
theorem dL_law_577 : Dc cL_law 577 (.iadd) 1 578 := ⟨by decide +kernel, rfl⟩
theorem dL_law_578 : Dc cL_law 578 (.iaload) 1 579 := ⟨by decide +kernel, rfl⟩
theorem dL_law_579 : Dc cL_law 579 (.invokevirtual 90) 3 582 := ⟨by decide +kernel, rfl⟩
theorem dL_law_582 : Dc cL_law 582 (.aload_n 2) 1 583 := ⟨by decide +kernel, rfl⟩
theorem dL_law_583 : Dc cL_law 583 (.aload_n 0) 1 584 := ⟨by decide +kernel, rfl⟩
theorem dL_law_584 : Dc cL_law 584 (.iload_n 3) 1 585 := ⟨by decide +kernel, rfl⟩
theorem dL_law_585 : Dc cL_law 585 (.iconst 1) 1 586 := ⟨by decide +kernel, rfl⟩
theorem dL_law_586 : Dc cL_law 586 (.iadd) 1 587 := ⟨by decide +kernel, rfl⟩
theorem dL_law_587 : Dc cL_law 587 (.iaload) 1 588 := ⟨by decide +kernel, rfl⟩
theorem dL_law_588 : Dc cL_law 588 (.aload_n 0) 1 589 := ⟨by decide +kernel, rfl⟩
theorem dL_law_589 : Dc cL_law 589 (.iload_n 3) 1 590 := ⟨by decide +kernel, rfl⟩
theorem dL_law_590 : Dc cL_law 590 (.iconst 2) 1 591 := ⟨by decide +kernel, rfl⟩
theorem dL_law_591 : Dc cL_law 591 (.iadd) 1 592 := ⟨by decide +kernel, rfl⟩
theorem dL_law_592 : Dc cL_law 592 (.iaload) 1 593 := ⟨by decide +kernel, rfl⟩
theorem dL_law_593 : Dc cL_law 593 (.invokevirtual 93) 3 596 := ⟨by decide +kernel, rfl⟩
theorem dL_law_596 : Db cL_law 596 (fun o => .if_icmp .eq o) 599 832 := ⟨236, by decide +kernel, rfl, rfl⟩
theorem dL_law_599 : Dc cL_law 599 (.iconst 0) 1 600 := ⟨by decide +kernel, rfl⟩
theorem dL_law_600 : Dc cL_law 600 (.ireturn) 1 601 := ⟨by decide +kernel, rfl⟩
theorem dL_law_601 : Dc cL_law 601 (.aload_n 1) 1 602 := ⟨by decide +kernel, rfl⟩
theorem dL_law_602 : Dc cL_law 602 (.aload_n 0) 1 603 := ⟨by decide +kernel, rfl⟩
theorem dL_law_603 : Dc cL_law 603 (.iload_n 3) 1 604 := ⟨by decide +kernel, rfl⟩
theorem dL_law_604 : Dc cL_law 604 (.iconst 1) 1 605 := ⟨by decide +kernel, rfl⟩
theorem dL_law_605 : Dc cL_law 605 (.iadd) 1 606 := ⟨by decide +kernel, rfl⟩
theorem dL_law_606 : Dc cL_law 606 (.iaload) 1 607 := ⟨by decide +kernel, rfl⟩
theorem dL_law_607 : Dc cL_law 607 (.invokevirtual 94) 3 610 := ⟨by decide +kernel, rfl⟩
theorem dL_law_610 : Dc cL_law 610 (.aload_n 2) 1 611 := ⟨by decide +kernel, rfl⟩
theorem dL_law_611 : Dc cL_law 611 (.aload_n 0) 1 612 := ⟨by decide +kernel, rfl⟩
theorem dL_law_612 : Dc cL_law 612 (.iload_n 3) 1 613 := ⟨by decide +kernel, rfl⟩
theorem dL_law_613 : Dc cL_law 613 (.iconst 1) 1 614 := ⟨by decide +kernel, rfl⟩
theorem dL_law_614 : Dc cL_law 614 (.iadd) 1 615 := ⟨by decide +kernel, rfl⟩
theorem dL_law_615 : Dc cL_law 615 (.iaload) 1 616 := ⟨by decide +kernel, rfl⟩
theorem dL_law_616 : Dc cL_law 616 (.invokevirtual 97) 3 619 := ⟨by decide +kernel, rfl⟩
theorem dL_law_619 : Db cL_law 619 (fun o => .if_icmp .eq o) 622 832 := ⟨213, by decide +kernel, rfl, rfl⟩
theorem dL_law_622 : Dc cL_law 622 (.iconst 0) 1 623 := ⟨by decide +kernel, rfl⟩
theorem dL_law_623 : Dc cL_law 623 (.ireturn) 1 624 := ⟨by decide +kernel, rfl⟩
theorem dL_law_624 : Dc cL_law 624 (.aload_n 1) 1 625 := ⟨by decide +kernel, rfl⟩
theorem dL_law_625 : Dc cL_law 625 (.aload_n 0) 1 626 := ⟨by decide +kernel, rfl⟩
theorem dL_law_626 : Dc cL_law 626 (.iload_n 3) 1 627 := ⟨by decide +kernel, rfl⟩
theorem dL_law_627 : Dc cL_law 627 (.iconst 1) 1 628 := ⟨by decide +kernel, rfl⟩
theorem dL_law_628 : Dc cL_law 628 (.iadd) 1 629 := ⟨by decide +kernel, rfl⟩
theorem dL_law_629 : Dc cL_law 629 (.iaload) 1 630 := ⟨by decide +kernel, rfl⟩
theorem dL_law_630 : Dc cL_law 630 (.aload_n 0) 1 631 := ⟨by decide +kernel, rfl⟩
theorem dL_law_631 : Dc cL_law 631 (.iload_n 3) 1 632 := ⟨by decide +kernel, rfl⟩
theorem dL_law_632 : Dc cL_law 632 (.iconst 2) 1 633 := ⟨by decide +kernel, rfl⟩
theorem dL_law_633 : Dc cL_law 633 (.iadd) 1 634 := ⟨by decide +kernel, rfl⟩
theorem dL_law_634 : Dc cL_law 634 (.iaload) 1 635 := ⟨by decide +kernel, rfl⟩
theorem dL_law_635 : Dc cL_law 635 (.aload_n 0) 1 636 := ⟨by decide +kernel, rfl⟩
theorem dL_law_636 : Dc cL_law 636 (.iload_n 3) 1 637 := ⟨by decide +kernel, rfl⟩
theorem dL_law_637 : Dc cL_law 637 (.iconst 3) 1 638 := ⟨by decide +kernel, rfl⟩
theorem dL_law_638 : Dc cL_law 638 (.iadd) 1 639 := ⟨by decide +kernel, rfl⟩
theorem dL_law_639 : Dc cL_law 639 (.iaload) 1 640 := ⟨by decide +kernel, rfl⟩
theorem dL_law_640 : Dc cL_law 640 (.invokevirtual 98) 3 643 := ⟨by decide +kernel, rfl⟩
theorem dL_law_643 : Dc cL_law 643 (.aload_n 2) 1 644 := ⟨by decide +kernel, rfl⟩
theorem dL_law_644 : Dc cL_law 644 (.aload_n 0) 1 645 := ⟨by decide +kernel, rfl⟩
theorem dL_law_645 : Dc cL_law 645 (.iload_n 3) 1 646 := ⟨by decide +kernel, rfl⟩
theorem dL_law_646 : Dc cL_law 646 (.iconst 1) 1 647 := ⟨by decide +kernel, rfl⟩
theorem dL_law_647 : Dc cL_law 647 (.iadd) 1 648 := ⟨by decide +kernel, rfl⟩
theorem dL_law_648 : Dc cL_law 648 (.iaload) 1 649 := ⟨by decide +kernel, rfl⟩
theorem dL_law_649 : Dc cL_law 649 (.aload_n 0) 1 650 := ⟨by decide +kernel, rfl⟩
theorem dL_law_650 : Dc cL_law 650 (.iload_n 3) 1 651 := ⟨by decide +kernel, rfl⟩
theorem dL_law_651 : Dc cL_law 651 (.iconst 2) 1 652 := ⟨by decide +kernel, rfl⟩
theorem dL_law_652 : Dc cL_law 652 (.iadd) 1 653 := ⟨by decide +kernel, rfl⟩
theorem dL_law_653 : Dc cL_law 653 (.iaload) 1 654 := ⟨by decide +kernel, rfl⟩
theorem dL_law_654 : Dc cL_law 654 (.aload_n 0) 1 655 := ⟨by decide +kernel, rfl⟩
theorem dL_law_655 : Dc cL_law 655 (.iload_n 3) 1 656 := ⟨by decide +kernel, rfl⟩
theorem dL_law_656 : Dc cL_law 656 (.iconst 3) 1 657 := ⟨by decide +kernel, rfl⟩
theorem dL_law_657 : Dc cL_law 657 (.iadd) 1 658 := ⟨by decide +kernel, rfl⟩
theorem dL_law_658 : Dc cL_law 658 (.iaload) 1 659 := ⟨by decide +kernel, rfl⟩
theorem dL_law_659 : Dc cL_law 659 (.invokevirtual 101) 3 662 := ⟨by decide +kernel, rfl⟩
theorem dL_law_662 : Db cL_law 662 (fun o => .if_icmp .eq o) 665 832 := ⟨170, by decide +kernel, rfl, rfl⟩
theorem dL_law_665 : Dc cL_law 665 (.iconst 0) 1 666 := ⟨by decide +kernel, rfl⟩
theorem dL_law_666 : Dc cL_law 666 (.ireturn) 1 667 := ⟨by decide +kernel, rfl⟩
theorem dL_law_667 : Dc cL_law 667 (.aload_n 1) 1 668 := ⟨by decide +kernel, rfl⟩
theorem dL_law_668 : Dc cL_law 668 (.aload_n 0) 1 669 := ⟨by decide +kernel, rfl⟩
theorem dL_law_669 : Dc cL_law 669 (.iload_n 3) 1 670 := ⟨by decide +kernel, rfl⟩
theorem dL_law_670 : Dc cL_law 670 (.iconst 1) 1 671 := ⟨by decide +kernel, rfl⟩
theorem dL_law_671 : Dc cL_law 671 (.iadd) 1 672 := ⟨by decide +kernel, rfl⟩
theorem dL_law_672 : Dc cL_law 672 (.iaload) 1 673 := ⟨by decide +kernel, rfl⟩
theorem dL_law_673 : Dc cL_law 673 (.invokevirtual 102) 3 676 := ⟨by decide +kernel, rfl⟩
theorem dL_law_676 : Dc cL_law 676 (.aload_n 2) 1 677 := ⟨by decide +kernel, rfl⟩
theorem dL_law_677 : Dc cL_law 677 (.aload_n 0) 1 678 := ⟨by decide +kernel, rfl⟩
theorem dL_law_678 : Dc cL_law 678 (.iload_n 3) 1 679 := ⟨by decide +kernel, rfl⟩
theorem dL_law_679 : Dc cL_law 679 (.iconst 1) 1 680 := ⟨by decide +kernel, rfl⟩
theorem dL_law_680 : Dc cL_law 680 (.iadd) 1 681 := ⟨by decide +kernel, rfl⟩
theorem dL_law_681 : Dc cL_law 681 (.iaload) 1 682 := ⟨by decide +kernel, rfl⟩
theorem dL_law_682 : Dc cL_law 682 (.invokevirtual 105) 3 685 := ⟨by decide +kernel, rfl⟩
theorem dL_law_685 : Db cL_law 685 (fun o => .if_icmp .eq o) 688 832 := ⟨147, by decide +kernel, rfl, rfl⟩
theorem dL_law_688 : Dc cL_law 688 (.iconst 0) 1 689 := ⟨by decide +kernel, rfl⟩
theorem dL_law_689 : Dc cL_law 689 (.ireturn) 1 690 := ⟨by decide +kernel, rfl⟩
theorem dL_law_690 : Dc cL_law 690 (.aload_n 1) 1 691 := ⟨by decide +kernel, rfl⟩
theorem dL_law_691 : Dc cL_law 691 (.aload_n 0) 1 692 := ⟨by decide +kernel, rfl⟩
theorem dL_law_692 : Dc cL_law 692 (.iload_n 3) 1 693 := ⟨by decide +kernel, rfl⟩
theorem dL_law_693 : Dc cL_law 693 (.iconst 1) 1 694 := ⟨by decide +kernel, rfl⟩
theorem dL_law_694 : Dc cL_law 694 (.iadd) 1 695 := ⟨by decide +kernel, rfl⟩
theorem dL_law_695 : Dc cL_law 695 (.iaload) 1 696 := ⟨by decide +kernel, rfl⟩
theorem dL_law_696 : Dc cL_law 696 (.aload_n 0) 1 697 := ⟨by decide +kernel, rfl⟩
theorem dL_law_697 : Dc cL_law 697 (.iload_n 3) 1 698 := ⟨by decide +kernel, rfl⟩
theorem dL_law_698 : Dc cL_law 698 (.iconst 2) 1 699 := ⟨by decide +kernel, rfl⟩
theorem dL_law_699 : Dc cL_law 699 (.iadd) 1 700 := ⟨by decide +kernel, rfl⟩
theorem dL_law_700 : Dc cL_law 700 (.iaload) 1 701 := ⟨by decide +kernel, rfl⟩
theorem dL_law_701 : Dc cL_law 701 (.invokevirtual 106) 3 704 := ⟨by decide +kernel, rfl⟩
theorem dL_law_704 : Dc cL_law 704 (.aload_n 2) 1 705 := ⟨by decide +kernel, rfl⟩
theorem dL_law_705 : Dc cL_law 705 (.aload_n 0) 1 706 := ⟨by decide +kernel, rfl⟩
theorem dL_law_706 : Dc cL_law 706 (.iload_n 3) 1 707 := ⟨by decide +kernel, rfl⟩
theorem dL_law_707 : Dc cL_law 707 (.iconst 1) 1 708 := ⟨by decide +kernel, rfl⟩
theorem dL_law_708 : Dc cL_law 708 (.iadd) 1 709 := ⟨by decide +kernel, rfl⟩
theorem dL_law_709 : Dc cL_law 709 (.iaload) 1 710 := ⟨by decide +kernel, rfl⟩
theorem dL_law_710 : Dc cL_law 710 (.aload_n 0) 1 711 := ⟨by decide +kernel, rfl⟩
theorem dL_law_711 : Dc cL_law 711 (.iload_n 3) 1 712 := ⟨by decide +kernel, rfl⟩
theorem dL_law_712 : Dc cL_law 712 (.iconst 2) 1 713 := ⟨by decide +kernel, rfl⟩
theorem dL_law_713 : Dc cL_law 713 (.iadd) 1 714 := ⟨by decide +kernel, rfl⟩
theorem dL_law_714 : Dc cL_law 714 (.iaload) 1 715 := ⟨by decide +kernel, rfl⟩
theorem dL_law_715 : Dc cL_law 715 (.invokevirtual 109) 3 718 := ⟨by decide +kernel, rfl⟩
theorem dL_law_718 : Db cL_law 718 (fun o => .if_icmp .eq o) 721 832 := ⟨114, by decide +kernel, rfl, rfl⟩
theorem dL_law_721 : Dc cL_law 721 (.iconst 0) 1 722 := ⟨by decide +kernel, rfl⟩
theorem dL_law_722 : Dc cL_law 722 (.ireturn) 1 723 := ⟨by decide +kernel, rfl⟩
theorem dL_law_723 : Dc cL_law 723 (.aload_n 1) 1 724 := ⟨by decide +kernel, rfl⟩
theorem dL_law_724 : Dc cL_law 724 (.aload_n 0) 1 725 := ⟨by decide +kernel, rfl⟩
theorem dL_law_725 : Dc cL_law 725 (.iload_n 3) 1 726 := ⟨by decide +kernel, rfl⟩
theorem dL_law_726 : Dc cL_law 726 (.iconst 1) 1 727 := ⟨by decide +kernel, rfl⟩
theorem dL_law_727 : Dc cL_law 727 (.iadd) 1 728 := ⟨by decide +kernel, rfl⟩
theorem dL_law_728 : Dc cL_law 728 (.iaload) 1 729 := ⟨by decide +kernel, rfl⟩
theorem dL_law_729 : Dc cL_law 729 (.invokevirtual 110) 3 732 := ⟨by decide +kernel, rfl⟩
theorem dL_law_732 : Dc cL_law 732 (.aload_n 2) 1 733 := ⟨by decide +kernel, rfl⟩
theorem dL_law_733 : Dc cL_law 733 (.aload_n 0) 1 734 := ⟨by decide +kernel, rfl⟩
theorem dL_law_734 : Dc cL_law 734 (.iload_n 3) 1 735 := ⟨by decide +kernel, rfl⟩
theorem dL_law_735 : Dc cL_law 735 (.iconst 1) 1 736 := ⟨by decide +kernel, rfl⟩
theorem dL_law_736 : Dc cL_law 736 (.iadd) 1 737 := ⟨by decide +kernel, rfl⟩
theorem dL_law_737 : Dc cL_law 737 (.iaload) 1 738 := ⟨by decide +kernel, rfl⟩
theorem dL_law_738 : Dc cL_law 738 (.invokevirtual 113) 3 741 := ⟨by decide +kernel, rfl⟩
theorem dL_law_741 : Db cL_law 741 (fun o => .if_icmp .eq o) 744 832 := ⟨91, by decide +kernel, rfl, rfl⟩
theorem dL_law_744 : Dc cL_law 744 (.iconst 0) 1 745 := ⟨by decide +kernel, rfl⟩
theorem dL_law_745 : Dc cL_law 745 (.ireturn) 1 746 := ⟨by decide +kernel, rfl⟩
theorem dL_law_746 : Dc cL_law 746 (.aload_n 1) 1 747 := ⟨by decide +kernel, rfl⟩
theorem dL_law_747 : Dc cL_law 747 (.aload_n 0) 1 748 := ⟨by decide +kernel, rfl⟩
theorem dL_law_748 : Dc cL_law 748 (.iload_n 3) 1 749 := ⟨by decide +kernel, rfl⟩
theorem dL_law_749 : Dc cL_law 749 (.iconst 1) 1 750 := ⟨by decide +kernel, rfl⟩
theorem dL_law_750 : Dc cL_law 750 (.iadd) 1 751 := ⟨by decide +kernel, rfl⟩
theorem dL_law_751 : Dc cL_law 751 (.iaload) 1 752 := ⟨by decide +kernel, rfl⟩
theorem dL_law_752 : Dc cL_law 752 (.aload_n 0) 1 753 := ⟨by decide +kernel, rfl⟩
theorem dL_law_753 : Dc cL_law 753 (.iload_n 3) 1 754 := ⟨by decide +kernel, rfl⟩
theorem dL_law_754 : Dc cL_law 754 (.iconst 2) 1 755 := ⟨by decide +kernel, rfl⟩
theorem dL_law_755 : Dc cL_law 755 (.iadd) 1 756 := ⟨by decide +kernel, rfl⟩
theorem dL_law_756 : Dc cL_law 756 (.iaload) 1 757 := ⟨by decide +kernel, rfl⟩
theorem dL_law_757 : Dc cL_law 757 (.aload_n 0) 1 758 := ⟨by decide +kernel, rfl⟩
theorem dL_law_758 : Dc cL_law 758 (.iload_n 3) 1 759 := ⟨by decide +kernel, rfl⟩
theorem dL_law_759 : Dc cL_law 759 (.iconst 3) 1 760 := ⟨by decide +kernel, rfl⟩
theorem dL_law_760 : Dc cL_law 760 (.iadd) 1 761 := ⟨by decide +kernel, rfl⟩
theorem dL_law_761 : Dc cL_law 761 (.iaload) 1 762 := ⟨by decide +kernel, rfl⟩
theorem dL_law_762 : Dc cL_law 762 (.invokevirtual 114) 3 765 := ⟨by decide +kernel, rfl⟩
theorem dL_law_765 : Dc cL_law 765 (.aload_n 2) 1 766 := ⟨by decide +kernel, rfl⟩
theorem dL_law_766 : Dc cL_law 766 (.aload_n 0) 1 767 := ⟨by decide +kernel, rfl⟩
theorem dL_law_767 : Dc cL_law 767 (.iload_n 3) 1 768 := ⟨by decide +kernel, rfl⟩
theorem dL_law_768 : Dc cL_law 768 (.iconst 1) 1 769 := ⟨by decide +kernel, rfl⟩
theorem dL_law_769 : Dc cL_law 769 (.iadd) 1 770 := ⟨by decide +kernel, rfl⟩
theorem dL_law_770 : Dc cL_law 770 (.iaload) 1 771 := ⟨by decide +kernel, rfl⟩
theorem dL_law_771 : Dc cL_law 771 (.aload_n 0) 1 772 := ⟨by decide +kernel, rfl⟩
theorem dL_law_772 : Dc cL_law 772 (.iload_n 3) 1 773 := ⟨by decide +kernel, rfl⟩
theorem dL_law_773 : Dc cL_law 773 (.iconst 2) 1 774 := ⟨by decide +kernel, rfl⟩
theorem dL_law_774 : Dc cL_law 774 (.iadd) 1 775 := ⟨by decide +kernel, rfl⟩
theorem dL_law_775 : Dc cL_law 775 (.iaload) 1 776 := ⟨by decide +kernel, rfl⟩
theorem dL_law_776 : Dc cL_law 776 (.aload_n 0) 1 777 := ⟨by decide +kernel, rfl⟩
theorem dL_law_777 : Dc cL_law 777 (.iload_n 3) 1 778 := ⟨by decide +kernel, rfl⟩
theorem dL_law_778 : Dc cL_law 778 (.iconst 3) 1 779 := ⟨by decide +kernel, rfl⟩
theorem dL_law_779 : Dc cL_law 779 (.iadd) 1 780 := ⟨by decide +kernel, rfl⟩
theorem dL_law_780 : Dc cL_law 780 (.iaload) 1 781 := ⟨by decide +kernel, rfl⟩
theorem dL_law_781 : Dc cL_law 781 (.invokevirtual 117) 3 784 := ⟨by decide +kernel, rfl⟩
theorem dL_law_784 : Db cL_law 784 (fun o => .if_icmp .eq o) 787 832 := ⟨48, by decide +kernel, rfl, rfl⟩
theorem dL_law_787 : Dc cL_law 787 (.iconst 0) 1 788 := ⟨by decide +kernel, rfl⟩
theorem dL_law_788 : Dc cL_law 788 (.ireturn) 1 789 := ⟨by decide +kernel, rfl⟩
theorem dL_law_789 : Dc cL_law 789 (.aload_n 1) 1 790 := ⟨by decide +kernel, rfl⟩
theorem dL_law_790 : Dc cL_law 790 (.aload_n 0) 1 791 := ⟨by decide +kernel, rfl⟩
theorem dL_law_791 : Dc cL_law 791 (.iload_n 3) 1 792 := ⟨by decide +kernel, rfl⟩
theorem dL_law_792 : Dc cL_law 792 (.iconst 1) 1 793 := ⟨by decide +kernel, rfl⟩
theorem dL_law_793 : Dc cL_law 793 (.iadd) 1 794 := ⟨by decide +kernel, rfl⟩
theorem dL_law_794 : Dc cL_law 794 (.iaload) 1 795 := ⟨by decide +kernel, rfl⟩
theorem dL_law_795 : Dc cL_law 795 (.aload_n 0) 1 796 := ⟨by decide +kernel, rfl⟩
theorem dL_law_796 : Dc cL_law 796 (.iload_n 3) 1 797 := ⟨by decide +kernel, rfl⟩
theorem dL_law_797 : Dc cL_law 797 (.iconst 2) 1 798 := ⟨by decide +kernel, rfl⟩
theorem dL_law_798 : Dc cL_law 798 (.iadd) 1 799 := ⟨by decide +kernel, rfl⟩
theorem dL_law_799 : Dc cL_law 799 (.iaload) 1 800 := ⟨by decide +kernel, rfl⟩
theorem dL_law_800 : Dc cL_law 800 (.aload_n 0) 1 801 := ⟨by decide +kernel, rfl⟩
theorem dL_law_801 : Dc cL_law 801 (.iload_n 3) 1 802 := ⟨by decide +kernel, rfl⟩
theorem dL_law_802 : Dc cL_law 802 (.iconst 3) 1 803 := ⟨by decide +kernel, rfl⟩
theorem dL_law_803 : Dc cL_law 803 (.iadd) 1 804 := ⟨by decide +kernel, rfl⟩
theorem dL_law_804 : Dc cL_law 804 (.iaload) 1 805 := ⟨by decide +kernel, rfl⟩
theorem dL_law_805 : Dc cL_law 805 (.invokevirtual 118) 3 808 := ⟨by decide +kernel, rfl⟩
theorem dL_law_808 : Dc cL_law 808 (.aload_n 2) 1 809 := ⟨by decide +kernel, rfl⟩
theorem dL_law_809 : Dc cL_law 809 (.aload_n 0) 1 810 := ⟨by decide +kernel, rfl⟩
theorem dL_law_810 : Dc cL_law 810 (.iload_n 3) 1 811 := ⟨by decide +kernel, rfl⟩
theorem dL_law_811 : Dc cL_law 811 (.iconst 1) 1 812 := ⟨by decide +kernel, rfl⟩
theorem dL_law_812 : Dc cL_law 812 (.iadd) 1 813 := ⟨by decide +kernel, rfl⟩
theorem dL_law_813 : Dc cL_law 813 (.iaload) 1 814 := ⟨by decide +kernel, rfl⟩
theorem dL_law_814 : Dc cL_law 814 (.aload_n 0) 1 815 := ⟨by decide +kernel, rfl⟩
theorem dL_law_815 : Dc cL_law 815 (.iload_n 3) 1 816 := ⟨by decide +kernel, rfl⟩
theorem dL_law_816 : Dc cL_law 816 (.iconst 2) 1 817 := ⟨by decide +kernel, rfl⟩
theorem dL_law_817 : Dc cL_law 817 (.iadd) 1 818 := ⟨by decide +kernel, rfl⟩
theorem dL_law_818 : Dc cL_law 818 (.iaload) 1 819 := ⟨by decide +kernel, rfl⟩
theorem dL_law_819 : Dc cL_law 819 (.aload_n 0) 1 820 := ⟨by decide +kernel, rfl⟩
theorem dL_law_820 : Dc cL_law 820 (.iload_n 3) 1 821 := ⟨by decide +kernel, rfl⟩
theorem dL_law_821 : Dc cL_law 821 (.iconst 3) 1 822 := ⟨by decide +kernel, rfl⟩
theorem dL_law_822 : Dc cL_law 822 (.iadd) 1 823 := ⟨by decide +kernel, rfl⟩
theorem dL_law_823 : Dc cL_law 823 (.iaload) 1 824 := ⟨by decide +kernel, rfl⟩
theorem dL_law_824 : Dc cL_law 824 (.invokevirtual 121) 3 827 := ⟨by decide +kernel, rfl⟩
theorem dL_law_827 : Db cL_law 827 (fun o => .if_icmp .eq o) 830 832 := ⟨5, by decide +kernel, rfl, rfl⟩
theorem dL_law_830 : Dc cL_law 830 (.iconst 0) 1 831 := ⟨by decide +kernel, rfl⟩
theorem dL_law_831 : Dc cL_law 831 (.ireturn) 1 832 := ⟨by decide +kernel, rfl⟩
theorem dL_law_832 : Dc cL_law 832 (.iinc 3 4) 3 835 := ⟨by decide +kernel, rfl⟩
theorem dL_law_835 : Db cL_law 835 .goto 838 18 := ⟨-817, by decide +kernel, rfl, rfl⟩
theorem dL_law_838 : Dc cL_law 838 (.iconst 1) 1 839 := ⟨by decide +kernel, rfl⟩
theorem dL_law_839 : Dc cL_law 839 (.ireturn) 1 840 := ⟨by decide +kernel, rfl⟩
end
section
theorem dJ11_isValidCodePoint_9a6ad_0 : Dc cJ11_isValidCodePoint_9a6ad 0 (.iload_n 0) 1 1 := ⟨by decide +kernel, rfl⟩
theorem dJ11_isValidCodePoint_9a6ad_1 : Dc cJ11_isValidCodePoint_9a6ad 1 (.bipush 16) 2 3 := ⟨by decide +kernel, rfl⟩
theorem dJ11_isValidCodePoint_9a6ad_3 : Dc cJ11_isValidCodePoint_9a6ad 3 (.iushr) 1 4 := ⟨by decide +kernel, rfl⟩
theorem dJ11_isValidCodePoint_9a6ad_4 : Dc cJ11_isValidCodePoint_9a6ad 4 (.istore_n 1) 1 5 := ⟨by decide +kernel, rfl⟩
theorem dJ11_isValidCodePoint_9a6ad_5 : Dc cJ11_isValidCodePoint_9a6ad 5 (.iload_n 1) 1 6 := ⟨by decide +kernel, rfl⟩
theorem dJ11_isValidCodePoint_9a6ad_6 : Dc cJ11_isValidCodePoint_9a6ad 6 (.bipush 17) 2 8 := ⟨by decide +kernel, rfl⟩
theorem dJ11_isValidCodePoint_9a6ad_8 : Db cJ11_isValidCodePoint_9a6ad 8 (fun o => .if_icmp .ge o) 11 15 := ⟨7, by decide +kernel, rfl, rfl⟩
theorem dJ11_isValidCodePoint_9a6ad_11 : Dc cJ11_isValidCodePoint_9a6ad 11 (.iconst 1) 1 12 := ⟨by decide +kernel, rfl⟩
theorem dJ11_isValidCodePoint_9a6ad_12 : Db cJ11_isValidCodePoint_9a6ad 12 .goto 15 16 := ⟨4, by decide +kernel, rfl, rfl⟩
theorem dJ11_isValidCodePoint_9a6ad_15 : Dc cJ11_isValidCodePoint_9a6ad 15 (.iconst 0) 1 16 := ⟨by decide +kernel, rfl⟩
theorem dJ11_isValidCodePoint_9a6ad_16 : Dc cJ11_isValidCodePoint_9a6ad 16 (.ireturn) 1 17 := ⟨by decide +kernel, rfl⟩
theorem dJ11_highSurrogate_5068e_0 : Dc cJ11_highSurrogate_5068e 0 (.iload_n 0) 1 1 := ⟨by decide +kernel, rfl⟩
theorem dJ11_highSurrogate_5068e_1 : Dc cJ11_highSurrogate_5068e 1 (.bipush 10) 2 3 := ⟨by decide +kernel, rfl⟩
theorem dJ11_highSurrogate_5068e_3 : Dc cJ11_highSurrogate_5068e 3 (.iushr) 1 4 := ⟨by decide +kernel, rfl⟩
theorem dJ11_highSurrogate_5068e_4 : Dc cJ11_highSurrogate_5068e 4 (.ldc 110) 2 6 := ⟨by decide +kernel, rfl⟩
theorem dJ11_highSurrogate_5068e_6 : Dc cJ11_highSurrogate_5068e 6 (.iadd) 1 7 := ⟨by decide +kernel, rfl⟩
theorem dJ11_highSurrogate_5068e_7 : Dc cJ11_highSurrogate_5068e 7 (.i2c) 1 8 := ⟨by decide +kernel, rfl⟩
theorem dJ11_highSurrogate_5068e_8 : Dc cJ11_highSurrogate_5068e 8 (.ireturn) 1 9 := ⟨by decide +kernel, rfl⟩
theorem dJ11_lowSurrogate_5068e_0 : Dc cJ11_lowSurrogate_5068e 0 (.iload_n 0) 1 1 := ⟨by decide +kernel, rfl⟩
theorem dJ11_lowSurrogate_5068e_1 : Dc cJ11_lowSurrogate_5068e 1 (.sipush 1023) 3 4 := ⟨by decide +kernel, rfl⟩
theorem dJ11_lowSurrogate_5068e_4 : Dc cJ11_lowSurrogate_5068e 4 (.iand) 1 5 := ⟨by decide +kernel, rfl⟩
theorem dJ11_lowSurrogate_5068e_5 : Dc cJ11_lowSurrogate_5068e 5 (.ldc 76) 2 7 := ⟨by decide +kernel, rfl⟩
theorem dJ11_lowSurrogate_5068e_7 : Dc cJ11_lowSurrogate_5068e 7 (.iadd) 1 8 := ⟨by decide +kernel, rfl⟩
theorem dJ11_lowSurrogate_5068e_8 : Dc cJ11_lowSurrogate_5068e 8 (.i2c) 1 9 := ⟨by decide +kernel, rfl⟩
theorem dJ11_lowSurrogate_5068e_9 : Dc cJ11_lowSurrogate_5068e 9 (.ireturn) 1 10 := ⟨by decide +kernel, rfl⟩
theorem dJ9_max_7cf53_0 : Dc cJ9_max_7cf53 0 (.iload_n 0) 1 1 := ⟨by decide +kernel, rfl⟩
theorem dJ9_max_7cf53_1 : Dc cJ9_max_7cf53 1 (.iload_n 1) 1 2 := ⟨by decide +kernel, rfl⟩
theorem dJ9_max_7cf53_2 : Db cJ9_max_7cf53 2 (fun o => .if_icmp .lt o) 5 9 := ⟨7, by decide +kernel, rfl, rfl⟩
theorem dJ9_max_7cf53_5 : Dc cJ9_max_7cf53 5 (.iload_n 0) 1 6 := ⟨by decide +kernel, rfl⟩
theorem dJ9_max_7cf53_6 : Db cJ9_max_7cf53 6 .goto 9 10 := ⟨4, by decide +kernel, rfl, rfl⟩
theorem dJ9_max_7cf53_9 : Dc cJ9_max_7cf53 9 (.iload_n 1) 1 10 := ⟨by decide +kernel, rfl⟩
theorem dJ9_max_7cf53_10 : Dc cJ9_max_7cf53 10 (.ireturn) 1 11 := ⟨by decide +kernel, rfl⟩
theorem dJ9_min_7cf53_0 : Dc cJ9_min_7cf53 0 (.iload_n 0) 1 1 := ⟨by decide +kernel, rfl⟩
theorem dJ9_min_7cf53_1 : Dc cJ9_min_7cf53 1 (.iload_n 1) 1 2 := ⟨by decide +kernel, rfl⟩
theorem dJ9_min_7cf53_2 : Db cJ9_min_7cf53 2 (fun o => .if_icmp .gt o) 5 9 := ⟨7, by decide +kernel, rfl, rfl⟩
theorem dJ9_min_7cf53_5 : Dc cJ9_min_7cf53 5 (.iload_n 0) 1 6 := ⟨by decide +kernel, rfl⟩
theorem dJ9_min_7cf53_6 : Db cJ9_min_7cf53 6 .goto 9 10 := ⟨4, by decide +kernel, rfl, rfl⟩
theorem dJ9_min_7cf53_9 : Dc cJ9_min_7cf53 9 (.iload_n 1) 1 10 := ⟨by decide +kernel, rfl⟩
theorem dJ9_min_7cf53_10 : Dc cJ9_min_7cf53 10 (.ireturn) 1 11 := ⟨by decide +kernel, rfl⟩
theorem dJ0_length_8abf5_0 : Dc cJ0_length_8abf5 0 (.aload_n 0) 1 1 := ⟨by decide +kernel, rfl⟩
theorem dJ0_length_8abf5_1 : Dc cJ0_length_8abf5 1 (.getfield 9) 3 4 := ⟨by decide +kernel, rfl⟩
theorem dJ0_length_8abf5_4 : Dc cJ0_length_8abf5 4 (.arraylength) 1 5 := ⟨by decide +kernel, rfl⟩
theorem dJ0_length_8abf5_5 : Dc cJ0_length_8abf5 5 (.aload_n 0) 1 6 := ⟨by decide +kernel, rfl⟩
theorem dJ0_length_8abf5_6 : Dc cJ0_length_8abf5 6 (.invokevirtual 335) 3 9 := ⟨by decide +kernel, rfl⟩
theorem dJ0_length_8abf5_9 : Dc cJ0_length_8abf5 9 (.ishr) 1 10 := ⟨by decide +kernel, rfl⟩
theorem dJ0_length_8abf5_10 : Dc cJ0_length_8abf5 10 (.ireturn) 1 11 := ⟨by decide +kernel, rfl⟩
theorem dJ0_indexOf_0f7a4_0 : Dc cJ0_indexOf_0f7a4 0 (.aload_n 0) 1 1 := ⟨by decide +kernel, rfl⟩
theorem dJ0_indexOf_0f7a4_1 : Dc cJ0_indexOf_0f7a4 1 (.iload_n 1) 1 2 := ⟨by decide +kernel, rfl⟩
theorem dJ0_indexOf_0f7a4_2 : Dc cJ0_indexOf_0f7a4 2 (.iconst 0) 1 3 := ⟨by decide +kernel, rfl⟩
theorem dJ0_indexOf_0f7a4_3 : Dc cJ0_indexOf_0f7a4 3 (.invokevirtual 633) 3 6 := ⟨by decide +kernel, rfl⟩
theorem dJ0_indexOf_0f7a4_6 : Dc cJ0_indexOf_0f7a4 6 (.ireturn) 1 7 := ⟨by decide +kernel, rfl⟩
theorem dJ0_indexOf_7cf53_0 : Dc cJ0_indexOf_7cf53 0 (.aload_n 0) 1 1 := ⟨by decide +kernel, rfl⟩
theorem dJ0_indexOf_7cf53_1 : Dc cJ0_indexOf_7cf53 1 (.invokevirtual 492) 3 4 := ⟨by decide +kernel, rfl⟩
theorem dJ0_indexOf_7cf53_4 : Db cJ0_indexOf_7cf53 4 (fun o => .ifCond .eq o) 7 23 := ⟨19, by decide +kernel, rfl, rfl⟩
theorem dJ0_indexOf_7cf53_7 : Dc cJ0_indexOf_7cf53 7 (.aload_n 0) 1 8 := ⟨by decide +kernel, rfl⟩
theorem dJ0_indexOf_7cf53_8 : Dc cJ0_indexOf_7cf53 8 (.getfield 9) 3 11 := ⟨by decide +kernel, rfl⟩
theorem dJ0_indexOf_7cf53_11 : Dc cJ0_indexOf_7cf53 11 (.iload_n 1) 1 12 := ⟨by decide +kernel, rfl⟩
theorem dJ0_indexOf_7cf53_12 : Dc cJ0_indexOf_7cf53 12 (.iload_n 2) 1 13 := ⟨by decide +kernel, rfl⟩
theorem dJ0_indexOf_7cf53_13 : Dc cJ0_indexOf_7cf53 13 (.aload_n 0) 1 14 := ⟨by decide +kernel, rfl⟩
theorem dJ0_indexOf_7cf53_14 : Dc cJ0_indexOf_7cf53 14 (.invokevirtual 505) 3 17 := ⟨by decide +kernel, rfl⟩
theorem dJ0_indexOf_7cf53_17 : Dc cJ0_indexOf_7cf53 17 (.invokestatic 637) 3 20 := ⟨by decide +kernel, rfl⟩
theorem dJ0_indexOf_7cf53_20 : Db cJ0_indexOf_7cf53 20 .goto 23 36 := ⟨16, by decide +kernel, rfl, rfl⟩
theorem dJ0_indexOf_7cf53_23 : Dc cJ0_indexOf_7cf53 23 (.aload_n 0) 1 24 := ⟨by decide +kernel, rfl⟩
theorem dJ0_indexOf_7cf53_24 : Dc cJ0_indexOf_7cf53 24 (.getfield 9) 3 27 := ⟨by decide +kernel, rfl⟩
theorem dJ0_indexOf_7cf53_27 : Dc cJ0_indexOf_7cf53 27 (.iload_n 1) 1 28 := ⟨by decide +kernel, rfl⟩
theorem dJ0_indexOf_7cf53_28 : Dc cJ0_indexOf_7cf53 28 (.iload_n 2) 1 29 := ⟨by decide +kernel, rfl⟩
theorem dJ0_indexOf_7cf53_29 : Dc cJ0_indexOf_7cf53 29 (.aload_n 0) 1 30 := ⟨by decide +kernel, rfl⟩
theorem dJ0_indexOf_7cf53_30 : Dc cJ0_indexOf_7cf53 30 (.invokevirtual 505) 3 33 := ⟨by decide +kernel, rfl⟩
theorem dJ0_indexOf_7cf53_33 : Dc cJ0_indexOf_7cf53 33 (.invokestatic 640) 3 36 := ⟨by decide +kernel, rfl⟩
theorem dJ0_indexOf_7cf53_36 : Dc cJ0_indexOf_7cf53 36 (.ireturn) 1 37 := ⟨by decide +kernel, rfl⟩
theorem dJ0_coder_7d493_0 : Dc cJ0_coder_7d493 0 (.getstatic 38) 3 3 := ⟨by decide +kernel, rfl⟩
theorem dJ0_coder_7d493_3 : Db cJ0_coder_7d493 3 (fun o => .ifCond .eq o) 6 13 := ⟨10, by decide +kernel, rfl, rfl⟩
theorem dJ0_coder_7d493_6 : Dc cJ0_coder_7d493 6 (.aload_n 0) 1 7 := ⟨by decide +kernel, rfl⟩
theorem dJ0_coder_7d493_7 : Dc cJ0_coder_7d493 7 (.getfield 15) 3 10 := ⟨by decide +kernel, rfl⟩
theorem dJ0_coder_7d493_10 : Db cJ0_coder_7d493 10 .goto 13 14 := ⟨4, by decide +kernel, rfl, rfl⟩
theorem dJ0_coder_7d493_13 : Dc cJ0_coder_7d493 13 (.iconst 1) 1 14 := ⟨by decide +kernel, rfl⟩
theorem dJ0_coder_7d493_14 : Dc cJ0_coder_7d493 14 (.ireturn) 1 15 := ⟨by decide +kernel, rfl⟩
theorem dJ0_isLatin1_aae02_0 : Dc cJ0_isLatin1_aae02 0 (.getstatic 38) 3 3 := ⟨by decide +kernel, rfl⟩
theorem dJ0_isLatin1_aae02_3 : Db cJ0_isLatin1_aae02 3 (fun o => .ifCond .eq o) 6 17 := ⟨14, by decide +kernel, rfl, rfl⟩
theorem dJ0_isLatin1_aae02_6 : Dc cJ0_isLatin1_aae02 6 (.aload_n 0) 1 7 := ⟨by decide +kernel, rfl⟩
theorem dJ0_isLatin1_aae02_7 : Dc cJ0_isLatin1_aae02 7 (.getfield 15) 3 10 := ⟨by decide +kernel, rfl⟩
theorem dJ0_isLatin1_aae02_10 : Db cJ0_isLatin1_aae02 10 (fun o => .ifCond .ne o) 13 17 := ⟨7, by decide +kernel, rfl, rfl⟩
theorem dJ0_isLatin1_aae02_13 : Dc cJ0_isLatin1_aae02 13 (.iconst 1) 1 14 := ⟨by decide +kernel, rfl⟩
theorem dJ0_isLatin1_aae02_14 : Db cJ0_isLatin1_aae02 14 .goto 17 18 := ⟨4, by decide +kernel, rfl, rfl⟩
theorem dJ0_isLatin1_aae02_17 : Dc cJ0_isLatin1_aae02 17 (.iconst 0) 1 18 := ⟨by decide +kernel, rfl⟩
theorem dJ0_isLatin1_aae02_18 : Dc cJ0_isLatin1_aae02 18 (.ireturn) 1 19 := ⟨by decide +kernel, rfl⟩
theorem dJ0_checkBoundsBeginEnd_23922_0 : Dc cJ0_checkBoundsBeginEnd_23922 0 (.iload_n 0) 1 1 := ⟨by decide +kernel, rfl⟩
theorem dJ0_checkBoundsBeginEnd_23922_1 : Dc cJ0_checkBoundsBeginEnd_23922 1 (.iload_n 1) 1 2 := ⟨by decide +kernel, rfl⟩
theorem dJ0_checkBoundsBeginEnd_23922_2 : Dc cJ0_checkBoundsBeginEnd_23922 2 (.iload_n 2) 1 3 := ⟨by decide +kernel, rfl⟩
theorem dJ0_checkBoundsBeginEnd_23922_3 : Dc cJ0_checkBoundsBeginEnd_23922 3 (.getstatic 1053) 3 6 := ⟨by decide +kernel, rfl⟩
theorem dJ0_checkBoundsBeginEnd_23922_6 : Dc cJ0_checkBoundsBeginEnd_23922 6 (.invokestatic 1062) 3 9 := ⟨by decide +kernel, rfl⟩
theorem dJ0_checkBoundsBeginEnd_23922_9 : Dc cJ0_checkBoundsBeginEnd_23922 9 (.pop) 1 10 := ⟨by decide +kernel, rfl⟩
theorem dJ0_checkBoundsBeginEnd_23922_10 : Dc cJ0_checkBoundsBeginEnd_23922 10 (.return_) 1 11 := ⟨by decide +kernel, rfl⟩
theorem dJ1_canEncode_9a6ad_0 : Dc cJ1_canEncode_9a6ad 0 (.iload_n 0) 1 1 := ⟨by decide +kernel, rfl⟩
theorem dJ1_canEncode_9a6ad_1 : Db cJ1_canEncode_9a6ad 1 (fun o => .ifCond .lt o) 4 15 := ⟨14, by decide +kernel, rfl, rfl⟩
theorem dJ1_canEncode_9a6ad_4 : Dc cJ1_canEncode_9a6ad 4 (.iload_n 0) 1 5 := ⟨by decide +kernel, rfl⟩
theorem dJ1_canEncode_9a6ad_5 : Dc cJ1_canEncode_9a6ad 5 (.sipush 255) 3 8 := ⟨by decide +kernel, rfl⟩
theorem dJ1_canEncode_9a6ad_8 : Db cJ1_canEncode_9a6ad 8 (fun o => .if_icmp .gt o) 11 15 := ⟨7, by decide +kernel, rfl, rfl⟩
theorem dJ1_canEncode_9a6ad_11 : Dc cJ1_canEncode_9a6ad 11 (.iconst 1) 1 12 := ⟨by decide +kernel, rfl⟩
theorem dJ1_canEncode_9a6ad_12 : Db cJ1_canEncode_9a6ad 12 .goto 15 16 := ⟨4, by decide +kernel, rfl, rfl⟩
theorem dJ1_canEncode_9a6ad_15 : Dc cJ1_canEncode_9a6ad 15 (.iconst 0) 1 16 := ⟨by decide +kernel, rfl⟩
theorem dJ1_canEncode_9a6ad_16 : Dc cJ1_canEncode_9a6ad 16 (.ireturn) 1 17 := ⟨by decide +kernel, rfl⟩
theorem dJ1_indexOf_4cfef_0 : Dc cJ1_indexOf_4cfef 0 (.iload_n 1) 1 1 := ⟨by decide +kernel, rfl⟩
theorem dJ1_indexOf_4cfef_1 : Dc cJ1_indexOf_4cfef 1 (.invokestatic 88) 3 4 := ⟨by decide +kernel, rfl⟩
theorem dJ1_indexOf_4cfef_4 : Db cJ1_indexOf_4cfef 4 (fun o => .ifCond .ne o) 7 9 := ⟨5, by decide +kernel, rfl, rfl⟩
theorem dJ1_indexOf_4cfef_7 : Dc cJ1_indexOf_4cfef 7 (.iconst (-1)) 1 8 := ⟨by decide +kernel, rfl⟩
theorem dJ1_indexOf_4cfef_8 : Dc cJ1_indexOf_4cfef 8 (.ireturn) 1 9 := ⟨by decide +kernel, rfl⟩
theorem dJ1_indexOf_4cfef_9 : Dc cJ1_indexOf_4cfef 9 (.iload_n 2) 1 10 := ⟨by decide +kernel, rfl⟩
theorem dJ1_indexOf_4cfef_10 : Dc cJ1_indexOf_4cfef 10 (.iconst 0) 1 11 := ⟨by decide +kernel, rfl⟩
theorem dJ1_indexOf_4cfef_11 : Dc cJ1_indexOf_4cfef 11 (.invokestatic 92) 3 14 := ⟨by decide +kernel, rfl⟩
theorem dJ1_indexOf_4cfef_14 : Dc cJ1_indexOf_4cfef 14 (.istore_n 2) 1 15 := ⟨by decide +kernel, rfl⟩
theorem dJ1_indexOf_4cfef_15 : Dc cJ1_indexOf_4cfef 15 (.iload_n 3) 1 16 := ⟨by decide +kernel, rfl⟩
theorem dJ1_indexOf_4cfef_16 : Dc cJ1_indexOf_4cfef 16 (.aload_n 0) 1 17 := ⟨by decide +kernel, rfl⟩
theorem dJ1_indexOf_4cfef_17 : Dc cJ1_indexOf_4cfef 17 (.arraylength) 1 18 := ⟨by decide +kernel, rfl⟩
theorem dJ1_indexOf_4cfef_18 : Dc cJ1_indexOf_4cfef 18 (.invokestatic 38) 3 21 := ⟨by decide +kernel, rfl⟩
theorem dJ1_indexOf_4cfef_21 : Dc cJ1_indexOf_4cfef 21 (.istore_n 3) 1 22 := ⟨by decide +kernel, rfl⟩
theorem dJ1_indexOf_4cfef_22 : Dc cJ1_indexOf_4cfef 22 (.iload_n 2) 1 23 := ⟨by decide +kernel, rfl⟩
theorem dJ1_indexOf_4cfef_23 : Dc cJ1_indexOf_4cfef 23 (.iload_n 3) 1 24 := ⟨by decide +kernel, rfl⟩
theorem dJ1_indexOf_4cfef_24 : Db cJ1_indexOf_4cfef 24 (fun o => .if_icmp .lt o) 27 29 := ⟨5, by decide +kernel, rfl, rfl⟩
theorem dJ1_indexOf_4cfef_27 : Dc cJ1_indexOf_4cfef 27 (.iconst (-1)) 1 28 := ⟨by decide +kernel, rfl⟩
theorem dJ1_indexOf_4cfef_28 : Dc cJ1_indexOf_4cfef 28 (.ireturn) 1 29 := ⟨by decide +kernel, rfl⟩
theorem dJ1_indexOf_4cfef_29 : Dc cJ1_indexOf_4cfef 29 (.aload_n 0) 1 30 := ⟨by decide +kernel, rfl⟩
theorem dJ1_indexOf_4cfef_30 : Dc cJ1_indexOf_4cfef 30 (.iload_n 1) 1 31 := ⟨by decide +kernel, rfl⟩
theorem dJ1_indexOf_4cfef_31 : Dc cJ1_indexOf_4cfef 31 (.iload_n 2) 1 32 := ⟨by decide +kernel, rfl⟩
theorem dJ1_indexOf_4cfef_32 : Dc cJ1_indexOf_4cfef 32 (.iload_n 3) 1 33 := ⟨by decide +kernel, rfl⟩
theorem dJ1_indexOf_4cfef_33 : Dc cJ1_indexOf_4cfef 33 (.invokestatic 95) 3 36 := ⟨by decide +kernel, rfl⟩
theorem dJ1_indexOf_4cfef_36 : Dc cJ1_indexOf_4cfef 36 (.ireturn) 1 37 := ⟨by decide +kernel, rfl⟩
theorem dJ1_indexOfChar_4cfef_0 : Dc cJ1_indexOfChar_4cfef 0 (.iload_n 1) 1 1 := ⟨by decide +kernel, rfl⟩
theorem dJ1_indexOfChar_4cfef_1 : Dc cJ1_indexOfChar_4cfef 1 (.i2b) 1 2 := ⟨by decide +kernel, rfl⟩
theorem dJ1_indexOfChar_4cfef_2 : Dc cJ1_indexOfChar_4cfef 2 (.istore 4) 2 4 := ⟨by decide +kernel, rfl⟩
theorem dJ1_indexOfChar_4cfef_4 : Dc cJ1_indexOfChar_4cfef 4 (.iload_n 2) 1 5 := ⟨by decide +kernel, rfl⟩
theorem dJ1_indexOfChar_4cfef_5 : Dc cJ1_indexOfChar_4cfef 5 (.istore 5) 2 7 := ⟨by decide +kernel, rfl⟩
theorem dJ1_indexOfChar_4cfef_7 : Dc cJ1_indexOfChar_4cfef 7 (.iload 5) 2 9 := ⟨by decide +kernel, rfl⟩
theorem dJ1_indexOfChar_4cfef_9 : Dc cJ1_indexOfChar_4cfef 9 (.iload_n 3) 1 10 := ⟨by decide +kernel, rfl⟩
theorem dJ1_indexOfChar_4cfef_10 : Db cJ1_indexOfChar_4cfef 10 (fun o => .if_icmp .ge o) 13 31 := ⟨21, by decide +kernel, rfl, rfl⟩
theorem dJ1_indexOfChar_4cfef_13 : Dc cJ1_indexOfChar_4cfef 13 (.aload_n 0) 1 14 := ⟨by decide +kernel, rfl⟩
theorem dJ1_indexOfChar_4cfef_14 : Dc cJ1_indexOfChar_4cfef 14 (.iload 5) 2 16 := ⟨by decide +kernel, rfl⟩
theorem dJ1_indexOfChar_4cfef_16 : Dc cJ1_indexOfChar_4cfef 16 (.baload) 1 17 := ⟨by decide +kernel, rfl⟩
theorem dJ1_indexOfChar_4cfef_17 : Dc cJ1_indexOfChar_4cfef 17 (.iload 4) 2 19 := ⟨by decide +kernel, rfl⟩
theorem dJ1_indexOfChar_4cfef_19 : Db cJ1_indexOfChar_4cfef 19 (fun o => .if_icmp .ne o) 22 25 := ⟨6, by decide +kernel, rfl, rfl⟩
theorem dJ1_indexOfChar_4cfef_22 : Dc cJ1_indexOfChar_4cfef 22 (.iload 5) 2 24 := ⟨by decide +kernel, rfl⟩
theorem dJ1_indexOfChar_4cfef_24 : Dc cJ1_indexOfChar_4cfef 24 (.ireturn) 1 25 := ⟨by decide +kernel, rfl⟩
theorem dJ1_indexOfChar_4cfef_25 : Dc cJ1_indexOfChar_4cfef 25 (.iinc 5 1) 3 28 := ⟨by decide +kernel, rfl⟩
theorem dJ1_indexOfChar_4cfef_28 : Db cJ1_indexOfChar_4cfef 28 .goto 31 7 := ⟨-21, by decide +kernel, rfl, rfl⟩
theorem dJ1_indexOfChar_4cfef_31 : Dc cJ1_indexOfChar_4cfef 31 (.iconst (-1)) 1 32 := ⟨by decide +kernel, rfl⟩
theorem dJ1_indexOfChar_4cfef_32 : Dc cJ1_indexOfChar_4cfef 32 (.ireturn) 1 33 := ⟨by decide +kernel, rfl⟩
theorem dJ2_getChar_3b067_0 : Dc cJ2_getChar_3b067 0 (.getstatic 44) 3 3 := ⟨by decide +kernel, rfl⟩
theorem dJ2_getChar_3b067_3 : Db cJ2_getChar_3b067 3 (fun o => .ifCond .ne o) 6 28 := ⟨25, by decide +kernel, rfl, rfl⟩
theorem dJ2_getChar_3b067_6 : Dc cJ2_getChar_3b067 6 (.iload_n 1) 1 7 := ⟨by decide +kernel, rfl⟩
theorem dJ2_getChar_3b067_7 : Db cJ2_getChar_3b067 7 (fun o => .ifCond .lt o) 10 18 := ⟨11, by decide +kernel, rfl, rfl⟩
theorem dJ2_getChar_3b067_10 : Dc cJ2_getChar_3b067 10 (.iload_n 1) 1 11 := ⟨by decide +kernel, rfl⟩
theorem dJ2_getChar_3b067_11 : Dc cJ2_getChar_3b067 11 (.aload_n 0) 1 12 := ⟨by decide +kernel, rfl⟩
theorem dJ2_getChar_3b067_12 : Dc cJ2_getChar_3b067 12 (.invokestatic 48) 3 15 := ⟨by decide +kernel, rfl⟩
theorem dJ2_getChar_3b067_15 : Db cJ2_getChar_3b067 15 (fun o => .if_icmp .lt o) 18 28 := ⟨13, by decide +kernel, rfl, rfl⟩
theorem dJ2_getChar_3b067_18 : Dc cJ2_getChar_3b067 18 (.new 52) 3 21 := ⟨by decide +kernel, rfl⟩
theorem dJ2_getChar_3b067_21 : Dc cJ2_getChar_3b067 21 (.dup) 1 22 := ⟨by decide +kernel, rfl⟩
theorem dJ2_getChar_3b067_22 : Dc cJ2_getChar_3b067 22 (.ldc 54) 2 24 := ⟨by decide +kernel, rfl⟩
theorem dJ2_getChar_3b067_24 : Dc cJ2_getChar_3b067 24 (.invokespecial 56) 3 27 := ⟨by decide +kernel, rfl⟩
theorem dJ2_getChar_3b067_27 : Dc cJ2_getChar_3b067 27 (.athrow) 1 28 := ⟨by decide +kernel, rfl⟩
theorem dJ2_getChar_3b067_28 : Dc cJ2_getChar_3b067 28 (.iload_n 1) 1 29 := ⟨by decide +kernel, rfl⟩
theorem dJ2_getChar_3b067_29 : Dc cJ2_getChar_3b067 29 (.iconst 1) 1 30 := ⟨by decide +kernel, rfl⟩
theorem dJ2_getChar_3b067_30 : Dc cJ2_getChar_3b067 30 (.ishl) 1 31 := ⟨by decide +kernel, rfl⟩
theorem dJ2_getChar_3b067_31 : Dc cJ2_getChar_3b067 31 (.istore_n 1) 1 32 := ⟨by decide +kernel, rfl⟩
theorem dJ2_getChar_3b067_32 : Dc cJ2_getChar_3b067 32 (.aload_n 0) 1 33 := ⟨by decide +kernel, rfl⟩
theorem dJ2_getChar_3b067_33 : Dc cJ2_getChar_3b067 33 (.iload_n 1) 1 34 := ⟨by decide +kernel, rfl⟩
theorem dJ2_getChar_3b067_34 : Dc cJ2_getChar_3b067 34 (.iinc 1 1) 3 37 := ⟨by decide +kernel, rfl⟩
theorem dJ2_getChar_3b067_37 : Dc cJ2_getChar_3b067 37 (.baload) 1 38 := ⟨by decide +kernel, rfl⟩
theorem dJ2_getChar_3b067_38 : Dc cJ2_getChar_3b067 38 (.sipush 255) 3 41 := ⟨by decide +kernel, rfl⟩
theorem dJ2_getChar_3b067_41 : Dc cJ2_getChar_3b067 41 (.iand) 1 42 := ⟨by decide +kernel, rfl⟩
theorem dJ2_getChar_3b067_42 : Dc cJ2_getChar_3b067 42 (.getstatic 59) 3 45 := ⟨by decide +kernel, rfl⟩
theorem dJ2_getChar_3b067_45 : Dc cJ2_getChar_3b067 45 (.ishl) 1 46 := ⟨by decide +kernel, rfl⟩
theorem dJ2_getChar_3b067_46 : Dc cJ2_getChar_3b067 46 (.aload_n 0) 1 47 := ⟨by decide +kernel, rfl⟩
theorem dJ2_getChar_3b067_47 : Dc cJ2_getChar_3b067 47 (.iload_n 1) 1 48 := ⟨by decide +kernel, rfl⟩
theorem dJ2_getChar_3b067_48 : Dc cJ2_getChar_3b067 48 (.baload) 1 49 := ⟨by decide +kernel, rfl⟩
theorem dJ2_getChar_3b067_49 : Dc cJ2_getChar_3b067 49 (.sipush 255) 3 52 := ⟨by decide +kernel, rfl⟩
theorem dJ2_getChar_3b067_52 : Dc cJ2_getChar_3b067 52 (.iand) 1 53 := ⟨by decide +kernel, rfl⟩
theorem dJ2_getChar_3b067_53 : Dc cJ2_getChar_3b067 53 (.getstatic 63) 3 56 := ⟨by decide +kernel, rfl⟩
theorem dJ2_getChar_3b067_56 : Dc cJ2_getChar_3b067 56 (.ishl) 1 57 := ⟨by decide +kernel, rfl⟩
theorem dJ2_getChar_3b067_57 : Dc cJ2_getChar_3b067 57 (.ior) 1 58 := ⟨by decide +kernel, rfl⟩
theorem dJ2_getChar_3b067_58 : Dc cJ2_getChar_3b067 58 (.i2c) 1 59 := ⟨by decide +kernel, rfl⟩
theorem dJ2_getChar_3b067_59 : Dc cJ2_getChar_3b067 59 (.ireturn) 1 60 := ⟨by decide +kernel, rfl⟩
theorem dJ2_length_9d52b_0 : Dc cJ2_length_9d52b 0 (.aload_n 0) 1 1 := ⟨by decide +kernel, rfl⟩
theorem dJ2_length_9d52b_1 : Dc cJ2_length_9d52b 1 (.arraylength) 1 2 := ⟨by decide +kernel, rfl⟩
theorem dJ2_length_9d52b_2 : Dc cJ2_length_9d52b 2 (.iconst 1) 1 3 := ⟨by decide +kernel, rfl⟩
theorem dJ2_length_9d52b_3 : Dc cJ2_length_9d52b 3 (.ishr) 1 4 := ⟨by decide +kernel, rfl⟩
theorem dJ2_length_9d52b_4 : Dc cJ2_length_9d52b 4 (.ireturn) 1 5 := ⟨by decide +kernel, rfl⟩
theorem dJ2_indexOf_4cfef_0 : Dc cJ2_indexOf_4cfef 0 (.iload_n 2) 1 1 := ⟨by decide +kernel, rfl⟩
theorem dJ2_indexOf_4cfef_1 : Dc cJ2_indexOf_4cfef 1 (.iconst 0) 1 2 := ⟨by decide +kernel, rfl⟩
theorem dJ2_indexOf_4cfef_2 : Dc cJ2_indexOf_4cfef 2 (.invokestatic 224) 3 5 := ⟨by decide +kernel, rfl⟩
theorem dJ2_indexOf_4cfef_5 : Dc cJ2_indexOf_4cfef 5 (.istore_n 2) 1 6 := ⟨by decide +kernel, rfl⟩
theorem dJ2_indexOf_4cfef_6 : Dc cJ2_indexOf_4cfef 6 (.iload_n 3) 1 7 := ⟨by decide +kernel, rfl⟩
theorem dJ2_indexOf_4cfef_7 : Dc cJ2_indexOf_4cfef 7 (.aload_n 0) 1 8 := ⟨by decide +kernel, rfl⟩
theorem dJ2_indexOf_4cfef_8 : Dc cJ2_indexOf_4cfef 8 (.arraylength) 1 9 := ⟨by decide +kernel, rfl⟩
theorem dJ2_indexOf_4cfef_9 : Dc cJ2_indexOf_4cfef 9 (.iconst 1) 1 10 := ⟨by decide +kernel, rfl⟩
theorem dJ2_indexOf_4cfef_10 : Dc cJ2_indexOf_4cfef 10 (.ishr) 1 11 := ⟨by decide +kernel, rfl⟩
theorem dJ2_indexOf_4cfef_11 : Dc cJ2_indexOf_4cfef 11 (.invokestatic 183) 3 14 := ⟨by decide +kernel, rfl⟩
theorem dJ2_indexOf_4cfef_14 : Dc cJ2_indexOf_4cfef 14 (.istore_n 3) 1 15 := ⟨by decide +kernel, rfl⟩
theorem dJ2_indexOf_4cfef_15 : Dc cJ2_indexOf_4cfef 15 (.iload_n 2) 1 16 := ⟨by decide +kernel, rfl⟩
theorem dJ2_indexOf_4cfef_16 : Dc cJ2_indexOf_4cfef 16 (.iload_n 3) 1 17 := ⟨by decide +kernel, rfl⟩
theorem dJ2_indexOf_4cfef_17 : Db cJ2_indexOf_4cfef 17 (fun o => .if_icmp .lt o) 20 22 := ⟨5, by decide +kernel, rfl, rfl⟩
theorem dJ2_indexOf_4cfef_20 : Dc cJ2_indexOf_4cfef 20 (.iconst (-1)) 1 21 := ⟨by decide +kernel, rfl⟩
theorem dJ2_indexOf_4cfef_21 : Dc cJ2_indexOf_4cfef 21 (.ireturn) 1 22 := ⟨by decide +kernel, rfl⟩
theorem dJ2_indexOf_4cfef_22 : Dc cJ2_indexOf_4cfef 22 (.iload_n 1) 1 23 := ⟨by decide +kernel, rfl⟩
theorem dJ2_indexOf_4cfef_23 : Dc cJ2_indexOf_4cfef 23 (.ldc 227) 2 25 := ⟨by decide +kernel, rfl⟩
theorem dJ2_indexOf_4cfef_25 : Db cJ2_indexOf_4cfef 25 (fun o => .if_icmp .ge o) 28 36 := ⟨11, by decide +kernel, rfl, rfl⟩
theorem dJ2_indexOf_4cfef_28 : Dc cJ2_indexOf_4cfef 28 (.aload_n 0) 1 29 := ⟨by decide +kernel, rfl⟩
theorem dJ2_indexOf_4cfef_29 : Dc cJ2_indexOf_4cfef 29 (.iload_n 1) 1 30 := ⟨by decide +kernel, rfl⟩
theorem dJ2_indexOf_4cfef_30 : Dc cJ2_indexOf_4cfef 30 (.iload_n 2) 1 31 := ⟨by decide +kernel, rfl⟩
theorem dJ2_indexOf_4cfef_31 : Dc cJ2_indexOf_4cfef 31 (.iload_n 3) 1 32 := ⟨by decide +kernel, rfl⟩
theorem dJ2_indexOf_4cfef_32 : Dc cJ2_indexOf_4cfef 32 (.invokestatic 228) 3 35 := ⟨by decide +kernel, rfl⟩
theorem dJ2_indexOf_4cfef_35 : Dc cJ2_indexOf_4cfef 35 (.ireturn) 1 36 := ⟨by decide +kernel, rfl⟩
theorem dJ2_indexOf_4cfef_36 : Dc cJ2_indexOf_4cfef 36 (.aload_n 0) 1 37 := ⟨by decide +kernel, rfl⟩
theorem dJ2_indexOf_4cfef_37 : Dc cJ2_indexOf_4cfef 37 (.iload_n 1) 1 38 := ⟨by decide +kernel, rfl⟩
theorem dJ2_indexOf_4cfef_38 : Dc cJ2_indexOf_4cfef 38 (.iload_n 2) 1 39 := ⟨by decide +kernel, rfl⟩
theorem dJ2_indexOf_4cfef_39 : Dc cJ2_indexOf_4cfef 39 (.iload_n 3) 1 40 := ⟨by decide +kernel, rfl⟩
theorem dJ2_indexOf_4cfef_40 : Dc cJ2_indexOf_4cfef 40 (.invokestatic 232) 3 43 := ⟨by decide +kernel, rfl⟩
theorem dJ2_indexOf_4cfef_43 : Dc cJ2_indexOf_4cfef 43 (.ireturn) 1 44 := ⟨by decide +kernel, rfl⟩
theorem dJ2_indexOfChar_4cfef_0 : Dc cJ2_indexOfChar_4cfef 0 (.iload_n 2) 1 1 := ⟨by decide +kernel, rfl⟩
theorem dJ2_indexOfChar_4cfef_1 : Dc cJ2_indexOfChar_4cfef 1 (.iload_n 3) 1 2 := ⟨by decide +kernel, rfl⟩
theorem dJ2_indexOfChar_4cfef_2 : Dc cJ2_indexOfChar_4cfef 2 (.aload_n 0) 1 3 := ⟨by decide +kernel, rfl⟩
theorem dJ2_indexOfChar_4cfef_3 : Dc cJ2_indexOfChar_4cfef 3 (.invokestatic 96) 3 6 := ⟨by decide +kernel, rfl⟩
theorem dJ2_indexOfChar_4cfef_6 : Dc cJ2_indexOfChar_4cfef 6 (.aload_n 0) 1 7 := ⟨by decide +kernel, rfl⟩
theorem dJ2_indexOfChar_4cfef_7 : Dc cJ2_indexOfChar_4cfef 7 (.iload_n 1) 1 8 := ⟨by decide +kernel, rfl⟩
theorem dJ2_indexOfChar_4cfef_8 : Dc cJ2_indexOfChar_4cfef 8 (.iload_n 2) 1 9 := ⟨by decide +kernel, rfl⟩
theorem dJ2_indexOfChar_4cfef_9 : Dc cJ2_indexOfChar_4cfef 9 (.iload_n 3) 1 10 := ⟨by decide +kernel, rfl⟩
theorem dJ2_indexOfChar_4cfef_10 : Dc cJ2_indexOfChar_4cfef 10 (.invokestatic 244) 3 13 := ⟨by decide +kernel, rfl⟩
theorem dJ2_indexOfChar_4cfef_13 : Dc cJ2_indexOfChar_4cfef 13 (.ireturn) 1 14 := ⟨by decide +kernel, rfl⟩
theorem dJ2_indexOfCharUnsafe_4cfef_0 : Dc cJ2_indexOfCharUnsafe_4cfef 0 (.iload_n 2) 1 1 := ⟨by decide +kernel, rfl⟩
theorem dJ2_indexOfCharUnsafe_4cfef_1 : Dc cJ2_indexOfCharUnsafe_4cfef 1 (.istore 4) 2 3 := ⟨by decide +kernel, rfl⟩
theorem dJ2_indexOfCharUnsafe_4cfef_3 : Dc cJ2_indexOfCharUnsafe_4cfef 3 (.iload 4) 2 5 := ⟨by decide +kernel, rfl⟩
theorem dJ2_indexOfCharUnsafe_4cfef_5 : Dc cJ2_indexOfCharUnsafe_4cfef 5 (.iload_n 3) 1 6 := ⟨by decide +kernel, rfl⟩
theorem dJ2_indexOfCharUnsafe_4cfef_6 : Db cJ2_indexOfCharUnsafe_4cfef 6 (fun o => .if_icmp .ge o) 9 28 := ⟨22, by decide +kernel, rfl, rfl⟩
theorem dJ2_indexOfCharUnsafe_4cfef_9 : Dc cJ2_indexOfCharUnsafe_4cfef 9 (.aload_n 0) 1 10 := ⟨by decide +kernel, rfl⟩
theorem dJ2_indexOfCharUnsafe_4cfef_10 : Dc cJ2_indexOfCharUnsafe_4cfef 10 (.iload 4) 2 12 := ⟨by decide +kernel, rfl⟩
theorem dJ2_indexOfCharUnsafe_4cfef_12 : Dc cJ2_indexOfCharUnsafe_4cfef 12 (.invokestatic 71) 3 15 := ⟨by decide +kernel, rfl⟩
theorem dJ2_indexOfCharUnsafe_4cfef_15 : Dc cJ2_indexOfCharUnsafe_4cfef 15 (.iload_n 1) 1 16 := ⟨by decide +kernel, rfl⟩
theorem dJ2_indexOfCharUnsafe_4cfef_16 : Db cJ2_indexOfCharUnsafe_4cfef 16 (fun o => .if_icmp .ne o) 19 22 := ⟨6, by decide +kernel, rfl, rfl⟩
theorem dJ2_indexOfCharUnsafe_4cfef_19 : Dc cJ2_indexOfCharUnsafe_4cfef 19 (.iload 4) 2 21 := ⟨by decide +kernel, rfl⟩
theorem dJ2_indexOfCharUnsafe_4cfef_21 : Dc cJ2_indexOfCharUnsafe_4cfef 21 (.ireturn) 1 22 := ⟨by decide +kernel, rfl⟩
theorem dJ2_indexOfCharUnsafe_4cfef_22 : Dc cJ2_indexOfCharUnsafe_4cfef 22 (.iinc 4 1) 3 25 := ⟨by decide +kernel, rfl⟩
theorem dJ2_indexOfCharUnsafe_4cfef_25 : Db cJ2_indexOfCharUnsafe_4cfef 25 .goto 28 3 := ⟨-22, by decide +kernel, rfl, rfl⟩
theorem dJ2_indexOfCharUnsafe_4cfef_28 : Dc cJ2_indexOfCharUnsafe_4cfef 28 (.iconst (-1)) 1 29 := ⟨by decide +kernel, rfl⟩
theorem dJ2_indexOfCharUnsafe_4cfef_29 : Dc cJ2_indexOfCharUnsafe_4cfef 29 (.ireturn) 1 30 := ⟨by decide +kernel, rfl⟩
theorem dJ2_indexOfSupplementary_4cfef_0 : Dc cJ2_indexOfSupplementary_4cfef 0 (.iload_n 1) 1 1 := ⟨by decide +kernel, rfl⟩
theorem dJ2_indexOfSupplementary_4cfef_1 : Dc cJ2_indexOfSupplementary_4cfef 1 (.invokestatic 164) 3 4 := ⟨by decide +kernel, rfl⟩
theorem dJ2_indexOfSupplementary_4cfef_4 : Db cJ2_indexOfSupplementary_4cfef 4 (fun o => .ifCond .eq o) 7 69 := ⟨65, by decide +kernel, rfl, rfl⟩
theorem dJ2_indexOfSupplementary_4cfef_7 : Dc cJ2_indexOfSupplementary_4cfef 7 (.iload_n 1) 1 8 := ⟨by decide +kernel, rfl⟩
theorem dJ2_indexOfSupplementary_4cfef_8 : Dc cJ2_indexOfSupplementary_4cfef 8 (.invokestatic 157) 3 11 := ⟨by decide +kernel, rfl⟩
theorem dJ2_indexOfSupplementary_4cfef_11 : Dc cJ2_indexOfSupplementary_4cfef 11 (.istore 4) 2 13 := ⟨by decide +kernel, rfl⟩
theorem dJ2_indexOfSupplementary_4cfef_13 : Dc cJ2_indexOfSupplementary_4cfef 13 (.iload_n 1) 1 14 := ⟨by decide +kernel, rfl⟩
theorem dJ2_indexOfSupplementary_4cfef_14 : Dc cJ2_indexOfSupplementary_4cfef 14 (.invokestatic 161) 3 17 := ⟨by decide +kernel, rfl⟩
theorem dJ2_indexOfSupplementary_4cfef_17 : Dc cJ2_indexOfSupplementary_4cfef 17 (.istore 5) 2 19 := ⟨by decide +kernel, rfl⟩
theorem dJ2_indexOfSupplementary_4cfef_19 : Dc cJ2_indexOfSupplementary_4cfef 19 (.iload_n 2) 1 20 := ⟨by decide +kernel, rfl⟩
theorem dJ2_indexOfSupplementary_4cfef_20 : Dc cJ2_indexOfSupplementary_4cfef 20 (.iload_n 3) 1 21 := ⟨by decide +kernel, rfl⟩
theorem dJ2_indexOfSupplementary_4cfef_21 : Dc cJ2_indexOfSupplementary_4cfef 21 (.aload_n 0) 1 22 := ⟨by decide +kernel, rfl⟩
theorem dJ2_indexOfSupplementary_4cfef_22 : Dc cJ2_indexOfSupplementary_4cfef 22 (.invokestatic 96) 3 25 := ⟨by decide +kernel, rfl⟩
theorem dJ2_indexOfSupplementary_4cfef_25 : Dc cJ2_indexOfSupplementary_4cfef 25 (.iload_n 2) 1 26 := ⟨by decide +kernel, rfl⟩
theorem dJ2_indexOfSupplementary_4cfef_26 : Dc cJ2_indexOfSupplementary_4cfef 26 (.istore 6) 2 28 := ⟨by decide +kernel, rfl⟩
theorem dJ2_indexOfSupplementary_4cfef_28 : Dc cJ2_indexOfSupplementary_4cfef 28 (.iload 6) 2 30 := ⟨by decide +kernel, rfl⟩
theorem dJ2_indexOfSupplementary_4cfef_30 : Dc cJ2_indexOfSupplementary_4cfef 30 (.iload_n 3) 1 31 := ⟨by decide +kernel, rfl⟩
theorem dJ2_indexOfSupplementary_4cfef_31 : Dc cJ2_indexOfSupplementary_4cfef 31 (.iconst 1) 1 32 := ⟨by decide +kernel, rfl⟩
theorem dJ2_indexOfSupplementary_4cfef_32 : Dc cJ2_indexOfSupplementary_4cfef 32 (.isub) 1 33 := ⟨by decide +kernel, rfl⟩
theorem dJ2_indexOfSupplementary_4cfef_33 : Db cJ2_indexOfSupplementary_4cfef 33 (fun o => .if_icmp .ge o) 36 69 := ⟨36, by decide +kernel, rfl, rfl⟩
theorem dJ2_indexOfSupplementary_4cfef_36 : Dc cJ2_indexOfSupplementary_4cfef 36 (.aload_n 0) 1 37 := ⟨by decide +kernel, rfl⟩
theorem dJ2_indexOfSupplementary_4cfef_37 : Dc cJ2_indexOfSupplementary_4cfef 37 (.iload 6) 2 39 := ⟨by decide +kernel, rfl⟩
theorem dJ2_indexOfSupplementary_4cfef_39 : Dc cJ2_indexOfSupplementary_4cfef 39 (.invokestatic 71) 3 42 := ⟨by decide +kernel, rfl⟩
theorem dJ2_indexOfSupplementary_4cfef_42 : Dc cJ2_indexOfSupplementary_4cfef 42 (.iload 4) 2 44 := ⟨by decide +kernel, rfl⟩
theorem dJ2_indexOfSupplementary_4cfef_44 : Db cJ2_indexOfSupplementary_4cfef 44 (fun o => .if_icmp .ne o) 47 63 := ⟨19, by decide +kernel, rfl, rfl⟩
theorem dJ2_indexOfSupplementary_4cfef_47 : Dc cJ2_indexOfSupplementary_4cfef 47 (.aload_n 0) 1 48 := ⟨by decide +kernel, rfl⟩
theorem dJ2_indexOfSupplementary_4cfef_48 : Dc cJ2_indexOfSupplementary_4cfef 48 (.iload 6) 2 50 := ⟨by decide +kernel, rfl⟩
theorem dJ2_indexOfSupplementary_4cfef_50 : Dc cJ2_indexOfSupplementary_4cfef 50 (.iconst 1) 1 51 := ⟨by decide +kernel, rfl⟩
theorem dJ2_indexOfSupplementary_4cfef_51 : Dc cJ2_indexOfSupplementary_4cfef 51 (.iadd) 1 52 := ⟨by decide +kernel, rfl⟩
theorem dJ2_indexOfSupplementary_4cfef_52 : Dc cJ2_indexOfSupplementary_4cfef 52 (.invokestatic 71) 3 55 := ⟨by decide +kernel, rfl⟩
theorem dJ2_indexOfSupplementary_4cfef_55 : Dc cJ2_indexOfSupplementary_4cfef 55 (.iload 5) 2 57 := ⟨by decide +kernel, rfl⟩
theorem dJ2_indexOfSupplementary_4cfef_57 : Db cJ2_indexOfSupplementary_4cfef 57 (fun o => .if_icmp .ne o) 60 63 := ⟨6, by decide +kernel, rfl, rfl⟩
theorem dJ2_indexOfSupplementary_4cfef_60 : Dc cJ2_indexOfSupplementary_4cfef 60 (.iload 6) 2 62 := ⟨by decide +kernel, rfl⟩
theorem dJ2_indexOfSupplementary_4cfef_62 : Dc cJ2_indexOfSupplementary_4cfef 62 (.ireturn) 1 63 := ⟨by decide +kernel, rfl⟩
theorem dJ2_indexOfSupplementary_4cfef_63 : Dc cJ2_indexOfSupplementary_4cfef 63 (.iinc 6 1) 3 66 := ⟨by decide +kernel, rfl⟩
theorem dJ2_indexOfSupplementary_4cfef_66 : Db cJ2_indexOfSupplementary_4cfef 66 .goto 69 28 := ⟨-38, by decide +kernel, rfl, rfl⟩
theorem dJ2_indexOfSupplementary_4cfef_69 : Dc cJ2_indexOfSupplementary_4cfef 69 (.iconst (-1)) 1 70 := ⟨by decide +kernel, rfl⟩
theorem dJ2_indexOfSupplementary_4cfef_70 : Dc cJ2_indexOfSupplementary_4cfef 70 (.ireturn) 1 71 := ⟨by decide +kernel, rfl⟩
theorem dJ2_checkBoundsBeginEnd_d044e_0 : Dc cJ2_checkBoundsBeginEnd_d044e 0 (.iload_n 0) 1 1 := ⟨by decide +kernel, rfl⟩
theorem dJ2_checkBoundsBeginEnd_d044e_1 : Dc cJ2_checkBoundsBeginEnd_d044e 1 (.iload_n 1) 1 2 := ⟨by decide +kernel, rfl⟩
theorem dJ2_checkBoundsBeginEnd_d044e_2 : Dc cJ2_checkBoundsBeginEnd_d044e 2 (.aload_n 2) 1 3 := ⟨by decide +kernel, rfl⟩
theorem dJ2_checkBoundsBeginEnd_d044e_3 : Dc cJ2_checkBoundsBeginEnd_d044e 3 (.invokestatic 48) 3 6 := ⟨by decide +kernel, rfl⟩
theorem dJ2_checkBoundsBeginEnd_d044e_6 : Dc cJ2_checkBoundsBeginEnd_d044e 6 (.invokestatic 241) 3 9 := ⟨by decide +kernel, rfl⟩
theorem dJ2_checkBoundsBeginEnd_d044e_9 : Dc cJ2_checkBoundsBeginEnd_d044e 9 (.return_) 1 10 := ⟨by decide +kernel, rfl⟩
theorem dJ3_checkFromToIndex_8c36e_0 : Dc cJ3_checkFromToIndex_8c36e 0 (.iload_n 0) 1 1 := ⟨by decide +kernel, rfl⟩
theorem dJ3_checkFromToIndex_8c36e_1 : Db cJ3_checkFromToIndex_8c36e 1 (fun o => .ifCond .lt o) 4 14 := ⟨13, by decide +kernel, rfl, rfl⟩
theorem dJ3_checkFromToIndex_8c36e_4 : Dc cJ3_checkFromToIndex_8c36e 4 (.iload_n 0) 1 5 := ⟨by decide +kernel, rfl⟩
theorem dJ3_checkFromToIndex_8c36e_5 : Dc cJ3_checkFromToIndex_8c36e 5 (.iload_n 1) 1 6 := ⟨by decide +kernel, rfl⟩
theorem dJ3_checkFromToIndex_8c36e_6 : Db cJ3_checkFromToIndex_8c36e 6 (fun o => .if_icmp .gt o) 9 14 := ⟨8, by decide +kernel, rfl, rfl⟩
theorem dJ3_checkFromToIndex_8c36e_9 : Dc cJ3_checkFromToIndex_8c36e 9 (.iload_n 1) 1 10 := ⟨by decide +kernel, rfl⟩
theorem dJ3_checkFromToIndex_8c36e_10 : Dc cJ3_checkFromToIndex_8c36e 10 (.iload_n 2) 1 11 := ⟨by decide +kernel, rfl⟩
theorem dJ3_checkFromToIndex_8c36e_11 : Db cJ3_checkFromToIndex_8c36e 11 (fun o => .if_icmp .le o) 14 22 := ⟨11, by decide +kernel, rfl, rfl⟩
theorem dJ3_checkFromToIndex_8c36e_14 : Dc cJ3_checkFromToIndex_8c36e 14 (.aload_n 3) 1 15 := ⟨by decide +kernel, rfl⟩
theorem dJ3_checkFromToIndex_8c36e_15 : Dc cJ3_checkFromToIndex_8c36e 15 (.iload_n 0) 1 16 := ⟨by decide +kernel, rfl⟩
theorem dJ3_checkFromToIndex_8c36e_16 : Dc cJ3_checkFromToIndex_8c36e 16 (.iload_n 1) 1 17 := ⟨by decide +kernel, rfl⟩
theorem dJ3_checkFromToIndex_8c36e_17 : Dc cJ3_checkFromToIndex_8c36e 17 (.iload_n 2) 1 18 := ⟨by decide +kernel, rfl⟩
theorem dJ3_checkFromToIndex_8c36e_18 : Dc cJ3_checkFromToIndex_8c36e 18 (.invokestatic 99) 3 21 := ⟨by decide +kernel, rfl⟩
theorem dJ3_checkFromToIndex_8c36e_21 : Dc cJ3_checkFromToIndex_8c36e 21 (.athrow) 1 22 := ⟨by decide +kernel, rfl⟩
theorem dJ3_checkFromToIndex_8c36e_22 : Dc cJ3_checkFromToIndex_8c36e 22 (.iload_n 0) 1 23 := ⟨by decide +kernel, rfl⟩
theorem dJ3_checkFromToIndex_8c36e_23 : Dc cJ3_checkFromToIndex_8c36e 23 (.ireturn) 1 24 := ⟨by decide +kernel, rfl⟩
end
section
/-! A layer over the kit: the world as ONE function from addresses to entries (Hp); a judgement V (W, with all that stays the same hidden); a contract Ct. -/
abbrev Hp : Type := Nat → Option va_E
abbrev GT : Type := va_G × ClassId × ClassId × ClassId × Nat × Nat
def gtys (G : GT) : List (ClassId × FieldType) := [(G.2.1, .int), (G.2.2.1, .char), (G.2.2.2.1, .object "TryLoops$State")]
def isNest : Cond → Bool
  | .fieldLinkNest _ _ _ _ _ _ => true
  | .methodLinkNest _ _ _ _ => true
  | _ => false
/-- the words of the tables that speak of nest mates -/
def lw_nw : List Cond := lw_tbl.filter isNest
theorem gn (i : Nat) {w : Cond} (h : lw_tbl[i]? = some w) (g : isNest w = true) : w ∈ lw_nw := List.mem_filter.mpr ⟨List.mem_of_getElem? h, g⟩
theorem nest_on {w : Cond} (h : isNest w = true) : w.onTables = true := by
  cases w <;> first | rfl | (cases h)
theorem nest_warm {w : Cond} {s U : State} (h : isNest w = true) (hW : s.WarmedH U.vm) (hZ : va_Nw w s) : va_Nw w U := by
  cases w with
  | fieldLinkNest => exact va_Nw.warmF hW hZ
  | methodLinkNest => exact va_Nw.warmM hW hZ
  | _ => cases h
/-- the String constant of the verbs, and the static that its methods ask -/
def SF (G : GT) (A : Nat → Prop) (U : State) (H : Heap) : Prop := vk_R "TryLoops$Text" 68 "gwacst" G.2.2.2.2.1 U ∧ va_Z "java/lang/String" "COMPACT_STRINGS" "Z" (.int 1) A U H ∧ vk_S 1 [6] [[103, 119, 97, 99, 115, 116]] (fun _ => G.2.2.2.2.1) (fun _ => G.2.2.2.2.2) A U H ∧ ∀ w ∈ lw_nw, va_Nw w U
def lw_gtb : List Cond := lw_tbl.filter goodWord
theorem gm (i : Nat) {w : Cond} (h : lw_tbl[i]? = some w) (g : goodWord w = true) : w ∈ lw_gtb := List.mem_filter.mpr ⟨List.mem_of_getElem? h, g⟩
def hset (h : Hp) (a : Nat) (e : va_E) : Hp := fun q => if q = a then some e else h q
theorem hset_s {h : Hp} {a : Nat} {e : va_E} : hset h a e a = some e := by simp [hset]
theorem hset_n {h : Hp} {a b : Nat} {e : va_E} (n : b ≠ a) : hset h a e b = h b := by simp [hset, n]
def hRel (h : Hp) (ws : va_W) : Prop := ∀ (a : Nat) (e : va_E), h a = some e ↔ ∃ k : Nat, ws[k]? = some (a, e)
def HH (D : va_G) (A : Nat → Prop) (h : Hp) (H : Heap) : Prop := ∃ ws : va_W, hRel h ws ∧ va_P D vwCl ws H ∧ va_D A ws
theorem hRel_set {A : Nat → Prop} {h : Hp} {ws : va_W} {q0 a : Nat} {e0 e1 : va_E} (hr : hRel h ws) (hD : va_D A ws) (hq : ws[q0]? = some (a, e0)) : hRel (hset h a e1) (ws.set q0 (a, e1)) := by
  have hl := (List.getElem?_eq_some_iff.mp hq).1
  intro b e
  constructor
  · intro hb
    by_cases hab : b = a
    · subst hab
      rw [hset_s] at hb
      cases hb
      exact ⟨q0, List.getElem?_set_self hl⟩
    · rw [hset_n hab] at hb
      obtain ⟨k, hk⟩ := (hr b e).mp hb
      refine ⟨k, ?_⟩
      rw [List.getElem?_set_ne]
      · exact hk
      · intro z
        subst z
        rw [hq] at hk
        cases hk
        exact hab rfl
  · intro ⟨k, hk⟩
    by_cases hkq : k = q0
    · subst hkq
      rw [List.getElem?_set_self hl] at hk
      cases hk
      exact hset_s
    · rw [List.getElem?_set_ne (Ne.symm hkq)] at hk
      have hab : b ≠ a := fun z => hkq (hD.1 k q0 _ _ hk hq z)
      rw [hset_n hab]
      exact (hr b e).mpr ⟨k, hk⟩
theorem hRel_push {D : va_G} {H : Heap} {h : Hp} {ws : va_W} {a : Nat} {e1 : va_E} (hr : hRel h ws) (hP : va_P D vwCl ws H) (ha : H.size ≤ a) : hRel (hset h a e1) (ws ++ [(a, e1)]) := by
  intro b e
  constructor
  · intro hb
    by_cases hab : b = a
    · subst hab
      rw [hset_s] at hb
      cases hb
      exact ⟨ws.length, by simp⟩
    · rw [hset_n hab] at hb
      obtain ⟨k, hk⟩ := (hr b e).mp hb
      exact ⟨k, by rw [List.getElem?_append_left (List.getElem?_eq_some_iff.mp hk).1]; exact hk⟩
  · intro ⟨k, hk⟩
    by_cases hl : k < ws.length
    · rw [List.getElem?_append_left hl] at hk
      have h1 := (hP k _ hk).lt
      have hab : b ≠ a := fun z => by subst z; exact absurd h1 (Nat.not_lt.mpr ha)
      rw [hset_n hab]
      exact (hr b e).mpr ⟨k, hk⟩
    · rw [List.getElem?_append_right (by omega)] at hk
      have hz : k - ws.length < 1 := (List.getElem?_eq_some_iff.mp hk).1
      rw [show k - ws.length = 0 by omega] at hk
      cases hk
      exact hset_s
theorem HH.at {D : va_G} {A : Nat → Prop} {h : Hp} {H : Heap} (hh : HH D A h H) {a : Nat} {e : va_E} (he : h a = some e) : va_at D vwCl (a, e) H := by
  obtain ⟨ws, hr, hP, hD⟩ := hh
  obtain ⟨k, hk⟩ := (hr a e).mp he
  exact hP k _ hk
theorem HH.lt {D : va_G} {A : Nat → Prop} {h : Hp} {H : Heap} (hh : HH D A h H) {a : Nat} {e : va_E} (he : h a = some e) : a < H.size := (hh.at he).lt
theorem HH.in {D : va_G} {A : Nat → Prop} {h : Hp} {H : Heap} (hh : HH D A h H) {a : Nat} {e : va_E} (he : h a = some e) : A a := by
  obtain ⟨ws, hr, hP, hD⟩ := hh
  obtain ⟨k, hk⟩ := (hr a e).mp he
  exact hD.2 k _ hk
/-- the cells a method may change -/
def Ax (h : Hp) (sz : Nat) : Nat → Prop := fun q => (∃ e, h q = some e) ∨ sz ≤ q
theorem HH.weaken {D : va_G} {A B : Nat → Prop} {h : Hp} {H : Heap} (hh : HH D A h H) (hAB : ∀ q, A q → B q) : HH D B h H := by
  obtain ⟨ws, hr, hP, hD⟩ := hh
  exact ⟨ws, hr, hP, hD.weaken (fun _ _ _ h => hAB _ h)⟩
theorem HH.self {D : va_G} {A : Nat → Prop} {h : Hp} {H : Heap} {sz : Nat} (hh : HH D A h H) : HH D (Ax h sz) h H := by
  obtain ⟨ws, hr, hP, hD⟩ := hh
  exact ⟨ws, hr, hP, hD.1, fun k q hk => Or.inl ⟨q.2, (hr q.1 q.2).mpr ⟨k, hk⟩⟩⟩
/-- locals as a list of places -/
def hasL (ls : Array Slot) (n : Nat) (L : List (Option Value)) : Prop := ls.size = n ∧ lv_wf ls ∧ L.length = n ∧ ∀ (i : Nat) (v : Value), L[i]? = some (some v) → ls[i]? = some (.val v) ∧ v.category = 1
def pairsL (L : List (Option Value)) : List (Nat × Value) := (List.range L.length).filterMap (fun i => match L[i]? with | some (some v) => some (i, v) | _ => none)
theorem mem_pairsL {L : List (Option Value)} {q : Nat × Value} : q ∈ pairsL L ↔ L[q.1]? = some (some q.2) := by
  unfold pairsL
  rw [List.mem_filterMap]
  constructor
  · rintro ⟨i, hi, h⟩
    split at h
    · rename_i v hv
      cases h
      exact hv
    · cases h
  · intro h
    refine ⟨q.1, List.mem_range.mpr (List.getElem?_eq_some_iff.mp h).1, ?_⟩
    rw [h]
theorem hasL.has {ls : Array Slot} {n : Nat} {L : List (Option Value)} (h : hasL ls n L) : lv_has ls n (pairsL L) := ⟨h.1, h.2.1, fun q hq => (h.2.2.2 q.1 q.2 (mem_pairsL.mp hq)).1⟩
theorem hasL.at {ls : Array Slot} {n : Nat} {L : List (Option Value)} (h : hasL ls n L) {i : Nat} {v : Value} (hi : L[i]? = some (some v)) : ls[i]? = some (.val v) := (h.2.2.2 i v hi).1
theorem hasL.stored {ls ls' : Array Slot} {n : Nat} {L : List (Option Value)} {i : Nat} {v : Value} (h : hasL ls n L) (hi : i < n) (hc : v.category = 1) (h' : lv_has ls' n ((i, v) :: (pairsL L).filter (fun q => !(q.1 == i) && !(q.1 + 1 == i && q.2.category == 2)))) : hasL ls' n (L.set i (some v)) := by
  refine ⟨h'.1, h'.2.1, by rw [List.length_set]; exact h.2.2.1, fun j x hj => ?_⟩
  by_cases hij : i = j
  · subst hij
    rw [List.getElem?_set_self (by rw [h.2.2.1]; exact hi)] at hj
    cases hj
    exact ⟨h'.2.2 (i, v) List.mem_cons_self, hc⟩
  · rw [List.getElem?_set_ne hij] at hj
    have hx := h.2.2.2 j x hj
    refine ⟨h'.2.2 (j, x) (List.mem_cons_of_mem _ (List.mem_filter.mpr ⟨mem_pairsL.mpr hj, ?_⟩)), hx.2⟩
    have hc2 : ¬ x.category = 2 := by omega
    simp [hc2, Ne.symm hij]
theorem hasL.weaken {ls : Array Slot} {n : Nat} {L L' : List (Option Value)} (h : hasL ls n L) (hn : L'.length = L.length) (hL : ∀ (i : Nat) (v : Value), L'[i]? = some (some v) → L[i]? = some (some v)) : hasL ls n L' :=
  ⟨h.1, h.2.1, hn.trans h.2.2.1, fun i v hi => h.2.2.2 i v (hL i v hi)⟩
/-- what stays the same in a method -/
def Cx (G : GT) (own mn : String) (cc : ByteArray) (mL : Nat) (ret : Option FieldType) (p : Program) (s : State) (m : MethodId) (args : Array Value) (meth : Method) (c : Code) : Prop :=
  p.tables.exec = Jvm.exec ∧ c.code = cc ∧ c.maxLocals = mL ∧ s.vm.findClass own = some m.cls ∧ meth.sig.returnType = ret ∧ meth.locks = false ∧ (∀ w ∈ lw_gtb, w.before args s = true) ∧ va_K G.1 vwCl (gtys G) s ∧ meth.name = mn
abbrev ET : Type := State → (Nat → Prop) → Array Value → Prop
abbrev QT : Type := Array Value → State → List Frame → (Nat → Prop) → State → Prop
def V (G : GT) (l : Launch) (own mn : String) (cc : ByteArray) (mL : Nat) (ret : Option FieldType) (R : Room) (E : ET) (Qc : QT) (sz k n pc : Nat) (L : List (Option Value)) (st : List Value) (h : Hp) : Prop :=
  ∀ (p : Program) (e : Env) (s : State) (m : MethodId) (args : Array Value) (below : List Frame) (meth : Method) (c : Code) (A : Nat → Prop) (H : Heap) (locs : List Loc) (ls : Array Slot),
    Cx G own mn cc mL ret p s m args meth c → E s A args → SF G A s s.heap → (s.heap.size = sz ∧ H.size = sz + k) → HH G.1 A h H → va_S A s.heap H locs → (∀ q, s.heap.size ≤ q → A q) → hasL ls mL L →
    W p l e R s m args below meth c H locs k n (Qc args s below A) (F0 m pc ls st)
def Qpost (G : GT) (Qf : Option Value → Hp → Prop) (sz mc : Nat) (A : Nat → Prop) : Array Value → State → Outcome → State → Prop := fun _ st o t => ∃ (r : Option Value) (h : Hp), o = .returned r ∧ Qf r h ∧ t.heap.size = sz + mc ∧ HH G.1 A h t.heap ∧ va_K G.1 vwCl (gtys G) t ∧ va_F A st t
def Qm (G : GT) (Qf : Option Value → Hp → Prop) (sz mc ms : Nat) : QT := fun args s below A => MQ below (Qpost G Qf sz mc A) args s mc ms A
def E0 : ET := fun _ _ _ => True
def rmd (d mc ms : Nat) : Room := { frames := d, cells := mc, slots := ms, locals := 31 * d }
def wsY (y : MethodName) (cc : ByteArray) (mL : Nat) (ret : Option FieldType) : List Cond := Cond.code y cc mL ret :: lw_gtb
def hPre (G : GT) (sz : Nat) (h : Hp) (U : State) : Prop := U.heap.size = sz ∧ HH G.1 (fun _ => True) h U.heap ∧ va_K G.1 vwCl (gtys G) U ∧ SF G (Ax h sz) U U.heap
/-- the contract of a method: from the world h it answers r and leaves h' with Qf r h' -/
def Ct (G : GT) (l : Launch) (y : MethodName) (cc : ByteArray) (mL : Nat) (ret : Option FieldType) (d mc ms sz : Nat) (av : List Value) (h : Hp) (Qf : Option Value → Hp → Prop) : Prop :=
  Met l y (wsY y cc mL ret) (rmd d mc ms) (va_Pc av (hPre G sz h)) (Qpost G Qf sz mc (Ax h sz)) mc ms (Ax h sz)
theorem good_wsY {y : MethodName} {cc : ByteArray} {mL : Nat} {ret : Option FieldType} (h : Cond.code y cc mL ret ∈ lw_gtb) : GoodIn lw_gtb (wsY y cc mL ret) := by
  intro w hw
  have hm : w ∈ lw_gtb := by
    rcases List.mem_cons.mp hw with rfl | h2
    · exact h
    · exact h2
  exact ⟨hm, good_of_word (List.mem_filter.mp hm).2⟩
theorem lg_cat1 : ∀ (vs : List Value), (∀ v ∈ vs, v.category = 1) → (lg_sl vs).length = vs.length ∧ ∀ (b i : Nat) (v : Value), vs[i]? = some v → (b + i, v) ∈ lv_args b vs := by
  intro vs
  induction vs with
  | nil => exact fun _ => ⟨rfl, fun b i v h => by simp at h⟩
  | cons x r ih =>
    intro h
    have hx := h x List.mem_cons_self
    have hx2 : ¬ x.category = 2 := by omega
    obtain ⟨e1, e2⟩ := ih (fun v hv => h v (List.mem_cons_of_mem _ hv))
    refine ⟨?_, fun b i v hv => ?_⟩
    · have : lg_sl (x :: r) = [.val x] ++ lg_sl r := by simp [lg_sl, hx2]
      rw [this, List.length_append, e1]
      simp
      omega
    · cases i with
      | zero =>
        simp at hv
        subst hv
        simp [lv_args]
      | succ i =>
        simp at hv
        have := e2 (b + 1) i v hv
        simp only [lv_args, if_neg hx2]
        refine List.mem_cons_of_mem _ ?_
        rw [show b + (i + 1) = b + 1 + i by omega]
        exact this
theorem entryL (vs : List Value) (n : Nat) (hv : ∀ v ∈ vs, v.category = 1) (hn : vs.length ≤ n) : hasL ((lg_sl vs ++ List.replicate (n - (lg_sl vs).length) Slot.unset).toArray) n (vs.map some ++ List.replicate (n - vs.length) none) := by
  obtain ⟨e1, e2⟩ := lg_cat1 vs hv
  have hl := lv_entry vs (n := n) (by rw [e1]; exact hn)
  refine ⟨hl.1, hl.2.1, by simp; omega, fun i v hi => ?_⟩
  by_cases h : i < vs.length
  · rw [List.getElem?_append_left (by simpa using h)] at hi
    rw [List.getElem?_map] at hi
    have hvi : vs[i]? = some v := by
      cases hx : vs[i]? with
      | none => rw [hx] at hi; simp at hi
      | some y => rw [hx] at hi; simp at hi; rw [hi]
    exact ⟨hl.2.2 (i, v) (by have := e2 0 i v hvi; simpa using this), hv v (List.mem_of_getElem? hvi)⟩
  · rw [List.getElem?_append_right (by simpa using h)] at hi
    rw [List.getElem?_replicate] at hi
    split at hi <;> simp at hi
/-- a contract out of a walk -/
theorem Ct.of {G : GT} {l : Launch} {y : MethodName} {cc : ByteArray} {mL : Nat} {ret : Option FieldType} {d mc ms sz : Nat} {av : List Value} {h : Hp} {Qf : Option Value → Hp → Prop} {own mn : String} {L0 : List (Option Value)} (hy : plainName y.cls = true) (ho : y.cls = own) (hmn : y.name = mn) (hav : (av.all fun v => v.category == 1) = true) (hn : av.length ≤ mL) (hL0 : av.map some ++ List.replicate (mL - av.length) none = L0)
    (body : V G l own mn cc mL ret (rmd d mc ms) E0 (Qm G Qf sz mc ms) sz 0 0 0 L0 [] h) : Ct G l y cc mL ret d mc ms sz av h Qf := by
  subst ho; subst hmn; subst hL0
  refine Met.ofW (cc := cc) (maxL := mL) (ret := ret) hy rfl ?_
  intro p e s m args below meth c s₁ B hml hv
  obtain ⟨rfl, hsz, hh, hK, hSF⟩ := hv
  have hts := atoms_spec (ws := wsY y cc mL ret) B.pre
  rw [lg_entry_eq]
  have hav' : ∀ v ∈ av, v.category = 1 := fun v hv => by simpa using List.all_eq_true.mp hav v hv
  exact body p e s m av.toArray below meth c (Ax h sz) s.heap [] _ ⟨B.exec, B.bytes, hml, findClass_of_methodNamed B.named, B.returns, B.notSynchronized, fun w hw => hts w (List.mem_cons_of_mem _ hw), hK, (name_of_methodNamed B.named B.method).1⟩ trivial hSF ⟨hsz, hsz⟩ hh.self va_S.rf (fun q hq => Or.inr (by rw [← hsz]; exact hq)) (entryL av mL hav' hn)
theorem Ct.weaken {G : GT} {l : Launch} {y : MethodName} {cc : ByteArray} {mL : Nat} {ret : Option FieldType} {d mc ms sz : Nat} {av : List Value} {h : Hp} {Qf Qg : Option Value → Hp → Prop} (hc : Ct G l y cc mL ret d mc ms sz av h Qf) (hq : ∀ r h', Qf r h' → Qg r h') : Ct G l y cc mL ret d mc ms sz av h Qg := by
  intro p e ha hcc hk s m args below hf hap hpre hK
  obtain ⟨t, o, a1, a2, a3, a4, a5⟩ := hc p e ha hcc hk s m args below hf hap hpre hK
  obtain ⟨r, h', b1, b2, b3⟩ := a4
  exact ⟨t, o, a1, a2, a3, ⟨r, h', b1, hq r h' b2, b3⟩, a5⟩
section ROWS
variable {G : GT} {l : Launch} {own mn : String} {cc : ByteArray} {mL : Nat} {ret : Option FieldType} {R : Room} {E : ET} {Qc : QT} {sz k n pc nx tg : Nat} {L : List (Option Value)} {st : List Value} {h : Hp}

theorem V_iconst {j : Int} {v : Int32} (hd : Dc cc pc (.iconst j) 1 nx) (hv : Int32.ofInt j = v)
    (kk : V G l own mn cc mL ret R E Qc sz k n nx L (.int v :: st) h) : V G l own mn cc mL ret R E Qc sz k n pc L (st) h := by
  obtain ⟨hd, rfl⟩ := hd
  intro p e s m args below meth c A H locs ls C hE hF hz hh hS hA hl
  exact lv_iconst C.1 C.2.1 hd hv (kk p e s m args below meth c A H locs ls C hE hF hz hh hS hA hl)
theorem V_bipush {j : Int} {v : Int32} (hd : Dc cc pc (.bipush j) 2 nx) (hv : (Int8.ofInt j).toInt32 = v)
    (kk : V G l own mn cc mL ret R E Qc sz k n nx L (.int v :: st) h) : V G l own mn cc mL ret R E Qc sz k n pc L (st) h := by
  obtain ⟨hd, rfl⟩ := hd
  intro p e s m args below meth c A H locs ls C hE hF hz hh hS hA hl
  exact lv_bipush C.1 C.2.1 hd hv (kk p e s m args below meth c A H locs ls C hE hF hz hh hS hA hl)
theorem V_sipush {j : Int} {v : Int32} (hd : Dc cc pc (.sipush j) 3 nx) (hv : (Int16.ofInt j).toInt32 = v)
    (kk : V G l own mn cc mL ret R E Qc sz k n nx L (.int v :: st) h) : V G l own mn cc mL ret R E Qc sz k n pc L (st) h := by
  obtain ⟨hd, rfl⟩ := hd
  intro p e s m args below meth c A H locs ls C hE hF hz hh hS hA hl
  exact lv_sipush C.1 C.2.1 hd hv (kk p e s m args below meth c A H locs ls C hE hF hz hh hS hA hl)
theorem V_iload_n {j : Fin 4} {x : Int32} (hd : Dc cc pc (.iload_n j) 1 nx) (hL : L[(j : Nat)]? = some (some (.int x)))
    (kk : V G l own mn cc mL ret R E Qc sz k n nx L (.int x :: st) h) : V G l own mn cc mL ret R E Qc sz k n pc L (st) h := by
  obtain ⟨hd, rfl⟩ := hd
  intro p e s m args below meth c A H locs ls C hE hF hz hh hS hA hl
  exact lv_iload_n C.1 C.2.1 hd rfl (hl.at hL) (kk p e s m args below meth c A H locs ls C hE hF hz hh hS hA hl)
theorem V_iload {j : Nat} {x : Int32} (hd : Dc cc pc (.iload j) 2 nx) (hL : L[j]? = some (some (.int x)))
    (kk : V G l own mn cc mL ret R E Qc sz k n nx L (.int x :: st) h) : V G l own mn cc mL ret R E Qc sz k n pc L (st) h := by
  obtain ⟨hd, rfl⟩ := hd
  intro p e s m args below meth c A H locs ls C hE hF hz hh hS hA hl
  exact lv_iload C.1 C.2.1 hd (hl.at hL) (kk p e s m args below meth c A H locs ls C hE hF hz hh hS hA hl)
theorem V_aload_n {j : Fin 4} {x : Nat} (hd : Dc cc pc (.aload_n j) 1 nx) (hL : L[(j : Nat)]? = some (some (.ref x)))
    (kk : V G l own mn cc mL ret R E Qc sz k n nx L (.ref x :: st) h) : V G l own mn cc mL ret R E Qc sz k n pc L (st) h := by
  obtain ⟨hd, rfl⟩ := hd
  intro p e s m args below meth c A H locs ls C hE hF hz hh hS hA hl
  exact lv_aload_n C.1 C.2.1 hd rfl (hl.at hL) (kk p e s m args below meth c A H locs ls C hE hF hz hh hS hA hl)
theorem V_aload {j : Nat} {x : Nat} (hd : Dc cc pc (.aload j) 2 nx) (hL : L[j]? = some (some (.ref x)))
    (kk : V G l own mn cc mL ret R E Qc sz k n nx L (.ref x :: st) h) : V G l own mn cc mL ret R E Qc sz k n pc L (st) h := by
  obtain ⟨hd, rfl⟩ := hd
  intro p e s m args below meth c A H locs ls C hE hF hz hh hS hA hl
  exact lv_aload C.1 C.2.1 hd (hl.at hL) (kk p e s m args below meth c A H locs ls C hE hF hz hh hS hA hl)
theorem V_istore_n {j : Fin 4} {x : Int32} {L' : List (Option Value)} (hd : Dc cc pc (.istore_n j) 1 nx) (hi : (j : Nat) < mL) (hL' : L.set (j : Nat) (some (.int x)) = L')
    (kk : V G l own mn cc mL ret R E Qc sz k n nx L' st h) : V G l own mn cc mL ret R E Qc sz k n pc L (.int x :: st) h := by
  obtain ⟨hd, rfl⟩ := hd
  subst hL'
  intro p e s m args below meth c A H locs ls C hE hF hz hh hS hA hl
  exact lv_istore_n C.1 C.2.1 hd rfl hl.has hi rfl (fun ls' hl' => kk p e s m args below meth c A H locs ls' C hE hF hz hh hS hA (hl.stored hi rfl hl'))
theorem V_istore {j : Nat} {x : Int32} {L' : List (Option Value)} (hd : Dc cc pc (.istore j) 2 nx) (hi : j < mL) (hL' : L.set j (some (.int x)) = L')
    (kk : V G l own mn cc mL ret R E Qc sz k n nx L' st h) : V G l own mn cc mL ret R E Qc sz k n pc L (.int x :: st) h := by
  obtain ⟨hd, rfl⟩ := hd
  subst hL'
  intro p e s m args below meth c A H locs ls C hE hF hz hh hS hA hl
  exact lv_istore C.1 C.2.1 hd hl.has hi rfl (fun ls' hl' => kk p e s m args below meth c A H locs ls' C hE hF hz hh hS hA (hl.stored hi rfl hl'))
theorem V_astore_n {j : Fin 4} {x : Nat} {L' : List (Option Value)} (hd : Dc cc pc (.astore_n j) 1 nx) (hi : (j : Nat) < mL) (hL' : L.set (j : Nat) (some (.ref x)) = L')
    (kk : V G l own mn cc mL ret R E Qc sz k n nx L' st h) : V G l own mn cc mL ret R E Qc sz k n pc L (.ref x :: st) h := by
  obtain ⟨hd, rfl⟩ := hd
  subst hL'
  intro p e s m args below meth c A H locs ls C hE hF hz hh hS hA hl
  exact lv_astore_n C.1 C.2.1 hd rfl hl.has hi rfl (fun ls' hl' => kk p e s m args below meth c A H locs ls' C hE hF hz hh hS hA (hl.stored hi rfl hl'))
theorem V_astore {j : Nat} {x : Nat} {L' : List (Option Value)} (hd : Dc cc pc (.astore j) 2 nx) (hi : j < mL) (hL' : L.set j (some (.ref x)) = L')
    (kk : V G l own mn cc mL ret R E Qc sz k n nx L' st h) : V G l own mn cc mL ret R E Qc sz k n pc L (.ref x :: st) h := by
  obtain ⟨hd, rfl⟩ := hd
  subst hL'
  intro p e s m args below meth c A H locs ls C hE hF hz hh hS hA hl
  exact lv_astore C.1 C.2.1 hd hl.has hi rfl (fun ls' hl' => kk p e s m args below meth c A H locs ls' C hE hF hz hh hS hA (hl.stored hi rfl hl'))
theorem V_iinc {j : Nat} {i : Int} {x v : Int32} {L' : List (Option Value)} (hd : Dc cc pc (.iinc j i) 3 nx) (hL : L[j]? = some (some (.int x))) (hv : x + Int32.ofInt i = v) (hi : j < mL) (hL' : L.set j (some (.int v)) = L')
    (kk : V G l own mn cc mL ret R E Qc sz k n nx L' st h) : V G l own mn cc mL ret R E Qc sz k n pc L st h := by
  obtain ⟨hd, rfl⟩ := hd
  subst hL'
  intro p e s m args below meth c A H locs ls C hE hF hz hh hS hA hl
  obtain ⟨q, hq⟩ := List.getElem?_of_mem ((mem_pairsL (q := (j, Value.int x))).mpr hL)
  exact lv_iinc C.1 C.2.1 hd hl.has hq hv hi rfl (fun ls' hl' => kk p e s m args below meth c A H locs ls' C hE hF hz hh hS hA (hl.stored hi rfl hl'))
theorem V_iadd {x y : Int32} (hd : Dc cc pc (.iadd) 1 nx)
    (kk : V G l own mn cc mL ret R E Qc sz k n nx L (.int (x + y) :: st) h) : V G l own mn cc mL ret R E Qc sz k n pc L (.int y :: .int x :: st) h := by
  obtain ⟨hd, rfl⟩ := hd
  intro p e s m args below meth c A H locs ls C hE hF hz hh hS hA hl
  exact lv_iadd C.1 C.2.1 hd (kk p e s m args below meth c A H locs ls C hE hF hz hh hS hA hl)
theorem V_isub {x y : Int32} (hd : Dc cc pc (.isub) 1 nx)
    (kk : V G l own mn cc mL ret R E Qc sz k n nx L (.int (x - y) :: st) h) : V G l own mn cc mL ret R E Qc sz k n pc L (.int y :: .int x :: st) h := by
  obtain ⟨hd, rfl⟩ := hd
  intro p e s m args below meth c A H locs ls C hE hF hz hh hS hA hl
  exact lv_isub C.1 C.2.1 hd (kk p e s m args below meth c A H locs ls C hE hF hz hh hS hA hl)
theorem V_imul {x y : Int32} (hd : Dc cc pc (.imul) 1 nx)
    (kk : V G l own mn cc mL ret R E Qc sz k n nx L (.int (x * y) :: st) h) : V G l own mn cc mL ret R E Qc sz k n pc L (.int y :: .int x :: st) h := by
  obtain ⟨hd, rfl⟩ := hd
  intro p e s m args below meth c A H locs ls C hE hF hz hh hS hA hl
  exact lv_imul C.1 C.2.1 hd (kk p e s m args below meth c A H locs ls C hE hF hz hh hS hA hl)
theorem V_iand {x y : Int32} (hd : Dc cc pc (.iand) 1 nx)
    (kk : V G l own mn cc mL ret R E Qc sz k n nx L (.int (x &&& y) :: st) h) : V G l own mn cc mL ret R E Qc sz k n pc L (.int y :: .int x :: st) h := by
  obtain ⟨hd, rfl⟩ := hd
  intro p e s m args below meth c A H locs ls C hE hF hz hh hS hA hl
  exact lv_iand C.1 C.2.1 hd (kk p e s m args below meth c A H locs ls C hE hF hz hh hS hA hl)
theorem V_ineg {x : Int32} (hd : Dc cc pc (.ineg) 1 nx)
    (kk : V G l own mn cc mL ret R E Qc sz k n nx L (.int (-x) :: st) h) : V G l own mn cc mL ret R E Qc sz k n pc L (.int x :: st) h := by
  obtain ⟨hd, rfl⟩ := hd
  intro p e s m args below meth c A H locs ls C hE hF hz hh hS hA hl
  exact lv_ineg C.1 C.2.1 hd (kk p e s m args below meth c A H locs ls C hE hF hz hh hS hA hl)
theorem V_idiv {x y : Int32} (hd : Dc cc pc (.idiv) 1 nx) (hy : ¬ y = 0)
    (kk : V G l own mn cc mL ret R E Qc sz k n nx L (.int (x / y) :: st) h) : V G l own mn cc mL ret R E Qc sz k n pc L (.int y :: .int x :: st) h := by
  obtain ⟨hd, rfl⟩ := hd
  intro p e s m args below meth c A H locs ls C hE hF hz hh hS hA hl
  exact lv_idiv C.1 C.2.1 hd hy (kk p e s m args below meth c A H locs ls C hE hF hz hh hS hA hl)
theorem V_irem {x y : Int32} (hd : Dc cc pc (.irem) 1 nx) (hy : ¬ y = 0)
    (kk : V G l own mn cc mL ret R E Qc sz k n nx L (.int (x - x / y * y) :: st) h) : V G l own mn cc mL ret R E Qc sz k n pc L (.int y :: .int x :: st) h := by
  obtain ⟨hd, rfl⟩ := hd
  intro p e s m args below meth c A H locs ls C hE hF hz hh hS hA hl
  exact lv_irem C.1 C.2.1 hd hy (kk p e s m args below meth c A H locs ls C hE hF hz hh hS hA hl)
theorem V_i2c {x v : Int32} (hd : Dc cc pc (.i2c) 1 nx) (hv : (x.toUInt32 % 65536).toInt32 = v)
    (kk : V G l own mn cc mL ret R E Qc sz k n nx L (.int v :: st) h) : V G l own mn cc mL ret R E Qc sz k n pc L (.int x :: st) h := by
  obtain ⟨hd, rfl⟩ := hd
  intro p e s m args below meth c A H locs ls C hE hF hz hh hS hA hl
  exact lv_i2c C.1 C.2.1 hd hv (kk p e s m args below meth c A H locs ls C hE hF hz hh hS hA hl)
theorem V_dup {a : Value} (hd : Dc cc pc (.dup) 1 nx) (ha : a.category = 1)
    (kk : V G l own mn cc mL ret R E Qc sz k n nx L (a :: a :: st) h) : V G l own mn cc mL ret R E Qc sz k n pc L (a :: st) h := by
  obtain ⟨hd, rfl⟩ := hd
  intro p e s m args below meth c A H locs ls C hE hF hz hh hS hA hl
  exact lv_dup C.1 C.2.1 hd ha (kk p e s m args below meth c A H locs ls C hE hF hz hh hS hA hl)
theorem V_pop {a : Value} (hd : Dc cc pc (.pop) 1 nx) (ha : a.category = 1)
    (kk : V G l own mn cc mL ret R E Qc sz k n nx L (st) h) : V G l own mn cc mL ret R E Qc sz k n pc L (a :: st) h := by
  obtain ⟨hd, rfl⟩ := hd
  intro p e s m args below meth c A H locs ls C hE hF hz hh hS hA hl
  exact lv_pop C.1 C.2.1 hd ha (kk p e s m args below meth c A H locs ls C hE hF hz hh hS hA hl)
theorem V_dup2 {a b : Value} (hd : Dc cc pc (.dup2) 1 nx) (ha : a.category = 1) (hb : b.category = 1)
    (kk : V G l own mn cc mL ret R E Qc sz k n nx L (a :: b :: a :: b :: st) h) : V G l own mn cc mL ret R E Qc sz k n pc L (a :: b :: st) h := by
  obtain ⟨hd, rfl⟩ := hd
  intro p e s m args below meth c A H locs ls C hE hF hz hh hS hA hl
  exact lv_dup2_11 C.1 C.2.1 hd ha hb (kk p e s m args below meth c A H locs ls C hE hF hz hh hS hA hl)
theorem V_top {x : Int32} (kk : ∀ y : Int32, y = x → V G l own mn cc mL ret R E Qc sz k n pc L (.int y :: st) h) : V G l own mn cc mL ret R E Qc sz k n pc L (.int x :: st) h := kk x rfl
theorem V_toe {x y : Int32} (e : x = y) (kk : V G l own mn cc mL ret R E Qc sz k n pc L (.int y :: st) h) : V G l own mn cc mL ret R E Qc sz k n pc L (.int x :: st) h := e ▸ kk
theorem V_loc {L' : List (Option Value)} (hn : L'.length = L.length) (hL : ∀ (i : Nat) (v : Value), L'[i]? = some (some v) → L[i]? = some (some v)) (kk : V G l own mn cc mL ret R E Qc sz k n pc L' st h) : V G l own mn cc mL ret R E Qc sz k n pc L st h :=
  fun p e s m args below meth c A H locs ls C hE hF hz hh hS hA hl => kk p e s m args below meth c A H locs ls C hE hF hz hh hS hA (hl.weaken hn hL)
theorem V_goto (hd : Db cc pc .goto nx tg) (kk : V G l own mn cc mL ret R E Qc sz k n tg L st h) : V G l own mn cc mL ret R E Qc sz k n pc L st h := by
  obtain ⟨off, hd, rfl, ht⟩ := hd
  intro p e s m args below meth c A H locs ls C hE hF hz hh hS hA hl
  exact lv_goto C.1 C.2.1 hd ht (kk p e s m args below meth c A H locs ls C hE hF hz hh hS hA hl)
theorem V_ifnull {x : Nat} (hd : Db cc pc .ifnull nx tg) (kk : V G l own mn cc mL ret R E Qc sz k n nx L st h) : V G l own mn cc mL ret R E Qc sz k n pc L (.ref x :: st) h := by
  obtain ⟨off, hd, rfl, ht⟩ := hd
  intro p e s m args below meth c A H locs ls C hE hF hz hh hS hA hl
  exact lv_ifnull C.1 C.2.1 hd (kk p e s m args below meth c A H locs ls C hE hF hz hh hS hA hl)
theorem V_ifnonnull {x : Nat} (hd : Db cc pc .ifnonnull nx tg) (kk : V G l own mn cc mL ret R E Qc sz k n tg L st h) : V G l own mn cc mL ret R E Qc sz k n pc L (.ref x :: st) h := by
  obtain ⟨off, hd, rfl, ht⟩ := hd
  intro p e s m args below meth c A H locs ls C hE hF hz hh hS hA hl
  exact lv_ifnonnull C.1 C.2.1 hd ht (kk p e s m args below meth c A H locs ls C hE hF hz hh hS hA hl)
theorem V_icmp_eq {x y : Int32} (hd : Db cc pc (fun o => .if_icmp .eq o) nx tg) (kt : x = y → V G l own mn cc mL ret R E Qc sz k n tg L st h) (kf : ¬ (x = y) → V G l own mn cc mL ret R E Qc sz k n nx L st h) : V G l own mn cc mL ret R E Qc sz k n pc L (.int y :: .int x :: st) h := by
  obtain ⟨off, hd, rfl, ht⟩ := hd
  intro p e s m args below meth c A H locs ls C hE hF hz hh hS hA hl
  exact lv_icmp_eq C.1 C.2.1 hd ht (fun z => kt z p e s m args below meth c A H locs ls C hE hF hz hh hS hA hl) (fun z => kf z p e s m args below meth c A H locs ls C hE hF hz hh hS hA hl)
theorem V_if_eq {x : Int32} (hd : Db cc pc (fun o => .ifCond .eq o) nx tg) (kt : x = 0 → V G l own mn cc mL ret R E Qc sz k n tg L st h) (kf : ¬ (x = 0) → V G l own mn cc mL ret R E Qc sz k n nx L st h) : V G l own mn cc mL ret R E Qc sz k n pc L (.int x :: st) h := by
  obtain ⟨off, hd, rfl, ht⟩ := hd
  intro p e s m args below meth c A H locs ls C hE hF hz hh hS hA hl
  exact lv_if_eq C.1 C.2.1 hd ht (fun z => kt z p e s m args below meth c A H locs ls C hE hF hz hh hS hA hl) (fun z => kf z p e s m args below meth c A H locs ls C hE hF hz hh hS hA hl)
theorem V_icmp_ne {x y : Int32} (hd : Db cc pc (fun o => .if_icmp .ne o) nx tg) (kt : ¬ x = y → V G l own mn cc mL ret R E Qc sz k n tg L st h) (kf : x = y → V G l own mn cc mL ret R E Qc sz k n nx L st h) : V G l own mn cc mL ret R E Qc sz k n pc L (.int y :: .int x :: st) h := by
  obtain ⟨off, hd, rfl, ht⟩ := hd
  intro p e s m args below meth c A H locs ls C hE hF hz hh hS hA hl
  exact lv_icmp_ne C.1 C.2.1 hd ht (fun z => kt z p e s m args below meth c A H locs ls C hE hF hz hh hS hA hl) (fun z => kf z p e s m args below meth c A H locs ls C hE hF hz hh hS hA hl)
theorem V_if_ne {x : Int32} (hd : Db cc pc (fun o => .ifCond .ne o) nx tg) (kt : ¬ x = 0 → V G l own mn cc mL ret R E Qc sz k n tg L st h) (kf : x = 0 → V G l own mn cc mL ret R E Qc sz k n nx L st h) : V G l own mn cc mL ret R E Qc sz k n pc L (.int x :: st) h := by
  obtain ⟨off, hd, rfl, ht⟩ := hd
  intro p e s m args below meth c A H locs ls C hE hF hz hh hS hA hl
  exact lv_if_ne C.1 C.2.1 hd ht (fun z => kt z p e s m args below meth c A H locs ls C hE hF hz hh hS hA hl) (fun z => kf z p e s m args below meth c A H locs ls C hE hF hz hh hS hA hl)
theorem V_icmp_lt {x y : Int32} (hd : Db cc pc (fun o => .if_icmp .lt o) nx tg) (kt : x < y → V G l own mn cc mL ret R E Qc sz k n tg L st h) (kf : ¬ (x < y) → V G l own mn cc mL ret R E Qc sz k n nx L st h) : V G l own mn cc mL ret R E Qc sz k n pc L (.int y :: .int x :: st) h := by
  obtain ⟨off, hd, rfl, ht⟩ := hd
  intro p e s m args below meth c A H locs ls C hE hF hz hh hS hA hl
  exact lv_icmp_lt C.1 C.2.1 hd ht (fun z => kt z p e s m args below meth c A H locs ls C hE hF hz hh hS hA hl) (fun z => kf z p e s m args below meth c A H locs ls C hE hF hz hh hS hA hl)
theorem V_if_lt {x : Int32} (hd : Db cc pc (fun o => .ifCond .lt o) nx tg) (kt : x < 0 → V G l own mn cc mL ret R E Qc sz k n tg L st h) (kf : ¬ (x < 0) → V G l own mn cc mL ret R E Qc sz k n nx L st h) : V G l own mn cc mL ret R E Qc sz k n pc L (.int x :: st) h := by
  obtain ⟨off, hd, rfl, ht⟩ := hd
  intro p e s m args below meth c A H locs ls C hE hF hz hh hS hA hl
  exact lv_if_lt C.1 C.2.1 hd ht (fun z => kt z p e s m args below meth c A H locs ls C hE hF hz hh hS hA hl) (fun z => kf z p e s m args below meth c A H locs ls C hE hF hz hh hS hA hl)
theorem V_icmp_ge {x y : Int32} (hd : Db cc pc (fun o => .if_icmp .ge o) nx tg) (kt : y ≤ x → V G l own mn cc mL ret R E Qc sz k n tg L st h) (kf : ¬ (y ≤ x) → V G l own mn cc mL ret R E Qc sz k n nx L st h) : V G l own mn cc mL ret R E Qc sz k n pc L (.int y :: .int x :: st) h := by
  obtain ⟨off, hd, rfl, ht⟩ := hd
  intro p e s m args below meth c A H locs ls C hE hF hz hh hS hA hl
  exact lv_icmp_ge C.1 C.2.1 hd ht (fun z => kt z p e s m args below meth c A H locs ls C hE hF hz hh hS hA hl) (fun z => kf z p e s m args below meth c A H locs ls C hE hF hz hh hS hA hl)
theorem V_if_ge {x : Int32} (hd : Db cc pc (fun o => .ifCond .ge o) nx tg) (kt : 0 ≤ x → V G l own mn cc mL ret R E Qc sz k n tg L st h) (kf : ¬ (0 ≤ x) → V G l own mn cc mL ret R E Qc sz k n nx L st h) : V G l own mn cc mL ret R E Qc sz k n pc L (.int x :: st) h := by
  obtain ⟨off, hd, rfl, ht⟩ := hd
  intro p e s m args below meth c A H locs ls C hE hF hz hh hS hA hl
  exact lv_if_ge C.1 C.2.1 hd ht (fun z => kt z p e s m args below meth c A H locs ls C hE hF hz hh hS hA hl) (fun z => kf z p e s m args below meth c A H locs ls C hE hF hz hh hS hA hl)
theorem V_icmp_gt {x y : Int32} (hd : Db cc pc (fun o => .if_icmp .gt o) nx tg) (kt : y < x → V G l own mn cc mL ret R E Qc sz k n tg L st h) (kf : ¬ (y < x) → V G l own mn cc mL ret R E Qc sz k n nx L st h) : V G l own mn cc mL ret R E Qc sz k n pc L (.int y :: .int x :: st) h := by
  obtain ⟨off, hd, rfl, ht⟩ := hd
  intro p e s m args below meth c A H locs ls C hE hF hz hh hS hA hl
  exact lv_icmp_gt C.1 C.2.1 hd ht (fun z => kt z p e s m args below meth c A H locs ls C hE hF hz hh hS hA hl) (fun z => kf z p e s m args below meth c A H locs ls C hE hF hz hh hS hA hl)
theorem V_if_gt {x : Int32} (hd : Db cc pc (fun o => .ifCond .gt o) nx tg) (kt : 0 < x → V G l own mn cc mL ret R E Qc sz k n tg L st h) (kf : ¬ (0 < x) → V G l own mn cc mL ret R E Qc sz k n nx L st h) : V G l own mn cc mL ret R E Qc sz k n pc L (.int x :: st) h := by
  obtain ⟨off, hd, rfl, ht⟩ := hd
  intro p e s m args below meth c A H locs ls C hE hF hz hh hS hA hl
  exact lv_if_gt C.1 C.2.1 hd ht (fun z => kt z p e s m args below meth c A H locs ls C hE hF hz hh hS hA hl) (fun z => kf z p e s m args below meth c A H locs ls C hE hF hz hh hS hA hl)
theorem V_icmp_le {x y : Int32} (hd : Db cc pc (fun o => .if_icmp .le o) nx tg) (kt : x ≤ y → V G l own mn cc mL ret R E Qc sz k n tg L st h) (kf : ¬ (x ≤ y) → V G l own mn cc mL ret R E Qc sz k n nx L st h) : V G l own mn cc mL ret R E Qc sz k n pc L (.int y :: .int x :: st) h := by
  obtain ⟨off, hd, rfl, ht⟩ := hd
  intro p e s m args below meth c A H locs ls C hE hF hz hh hS hA hl
  exact lv_icmp_le C.1 C.2.1 hd ht (fun z => kt z p e s m args below meth c A H locs ls C hE hF hz hh hS hA hl) (fun z => kf z p e s m args below meth c A H locs ls C hE hF hz hh hS hA hl)
theorem V_if_le {x : Int32} (hd : Db cc pc (fun o => .ifCond .le o) nx tg) (kt : x ≤ 0 → V G l own mn cc mL ret R E Qc sz k n tg L st h) (kf : ¬ (x ≤ 0) → V G l own mn cc mL ret R E Qc sz k n nx L st h) : V G l own mn cc mL ret R E Qc sz k n pc L (.int x :: st) h := by
  obtain ⟨off, hd, rfl, ht⟩ := hd
  intro p e s m args below meth c A H locs ls C hE hF hz hh hS hA hl
  exact lv_if_le C.1 C.2.1 hd ht (fun z => kt z p e s m args below meth c A H locs ls C hE hF hz hh hS hA hl) (fun z => kf z p e s m args below meth c A H locs ls C hE hF hz hh hS hA hl)
end ROWS
end
section
/-! Rows of V over the memory, calls, returns. -/
theorem va_S.tr {A : Nat → Prop} {H0 H H1 : Heap} {l0 l1 : List Loc} (h : va_S A H0 H l0) (h1 : va_S A H H1 l1) : va_S A H0 H1 l1 :=
  ⟨Nat.le_trans h.1 h1.1, fun q a b => (h1.2.1 q (Nat.lt_of_lt_of_le a h.1) b).trans (h.2.1 q a b), h1.2.2⟩
theorem va_S.at {A : Nat → Prop} {H0 H : Heap} {l0 : List Loc} (h : va_S A H0 H l0) : va_S A H H l0 := ⟨Nat.le_refl _, fun _ _ _ => rfl, h.2.2⟩
def CK (ci : Nat) (C : String) (T : u_T) (ty : Nat → FieldType) (N : Nat) : Prop := vwCl[ci]? = some (C, T, N) ∧ (∀ w ∈ u_ws C T N, w ∈ lw_gtb) ∧ (∀ k, k < N → parseFieldDescriptor (T k).2.2.1 = some (ty k)) ∧ (∀ a, a < N → ∀ b, b < N → a ≠ b → (T a).2.1 ≠ (T b).2.1)
def FL (own : String) (idx ci k : Nat) (ty : FieldType) (fin : Bool) : Prop := ∃ (C : String) (T : u_T) (tyf : Nat → FieldType) (N : Nat), CK ci C T tyf N ∧ k < N ∧ tyf k = ty ∧ (T k).2.2.2 = fin ∧ (T k).1 = C ∧
  (Cond.fieldLink own idx C (T k).2.1 (T k).2.2.1 ∈ lw_gtb ∨ ∃ host, Cond.fieldLinkNest own idx C (T k).2.1 (T k).2.2.1 host ∈ lw_nw)
/-- what a callee needs of the tables -/
def Yk (y : MethodName) (cc : ByteArray) (mL : Nat) (ret : Option FieldType) (n : Nat) : Prop := Cond.code y cc mL ret ∈ lw_gtb ∧ Cond.initialized y.cls ∈ lw_gtb ∧ (y.cls ≠ "java/lang/invoke/MethodHandle" ∧ y.cls ≠ "java/lang/invoke/VarHandle" ∧ (parseMethodDescriptor y.desc).map (fun d => d.parameters.length) = some n)
def LkV (own : String) (idx : Nat) (y : MethodName) : Prop := (Cond.methodLink own idx y ∈ lw_gtb ∨ ∃ host, Cond.methodLinkNest own idx y host ∈ lw_nw) ∧ Cond.instanceMethod y ∈ lw_gtb ∧ Cond.selects y.cls y y ∈ lw_gtb
def LkS (own : String) (idx : Nat) (y : MethodName) : Prop := (Cond.methodLink own idx y ∈ lw_gtb ∨ ∃ host, Cond.methodLinkNest own idx y host ∈ lw_nw) ∧ Cond.static y ∈ lw_gtb
def LkI (own : String) (idx : Nat) (y : MethodName) : Prop := (Cond.methodLink own idx y ∈ lw_gtb ∨ ∃ host, Cond.methodLinkNest own idx y host ∈ lw_nw) ∧ Cond.instanceMethod y ∈ lw_gtb ∧ y.name = "<init>"
theorem SF.narrow {G : GT} {A B : Nat → Prop} {U : State} {H : Heap} (h : SF G A U H) (hAB : ∀ q, B q → A q) : SF G B U H := ⟨h.1, h.2.1.narrow hAB, h.2.2.1.narrow hAB, h.2.2.2⟩
theorem SF.kept {G : GT} {A : Nat → Prop} {U : State} {H H1 : Heap} (h : SF G A U H) (hq : ∀ a : Nat, a < H.size → ¬ A a → H1[a]? = H[a]?) : SF G A U H1 := ⟨h.1, h.2.1.kept hq, h.2.2.1.kept hq, h.2.2.2⟩
theorem SF.warm {G : GT} {A : Nat → Prop} {s U : State} {H : Heap} (hW : s.WarmedH U.vm) (h : SF G A s H) : SF G A U H := ⟨h.1.warm hW, h.2.1.moved hW.alike, h.2.2.1.moved hW.alike, fun w hw => nest_warm (List.mem_filter.mp hw).2 hW (h.2.2.2 w hw)⟩
theorem SF.calling {G : GT} {A : Nat → Prop} {a : Array Value} {U : State} {H : Heap} {g : JFrame} {mk : MethodId} (h : SF G A U H) : SF G A (U.calling g mk a) H := ⟨vk_R.same rfl h.1, h.2.1.moved (Vm.Alike.refl U.vm), h.2.2.1.moved (Vm.Alike.refl U.vm), fun w hw => va_Nw.same (u := U) (nest_on (List.mem_filter.mp hw).2) rfl (h.2.2.2 w hw)⟩
abbrev iA (G : GT) (n : Nat) (f : Nat → Int32) : va_E := .inl (G.2.1, n, .inl f)
abbrev chA (G : GT) (n : Nat) (f : Nat → Int32) : va_E := .inl (G.2.2.1, n, .inl f)
abbrev sA (G : GT) (n : Nat) (f : Nat → Option Nat) : va_E := .inl (G.2.2.2.1, n, .inr (.inr (.inr (.inr f))))
abbrev ob (ci : Nat) (fs : List Value) : va_E := .inr (ci, fs)
section ROWS2
variable {G : GT} {l : Launch} {own mn : String} {cc : ByteArray} {mL : Nat} {ret : Option FieldType} {R : Room} {E : ET} {Qc : QT} {sz k n pc nx tg : Nat} {L : List (Option Value)} {st : List Value} {h : Hp}
theorem hPre.blind {sz : Nat} {h : Hp} {av : List Value} : FrameBlind (va_Pc av (hPre G sz h)) := by
  intro a U g mk hq
  obtain ⟨q0, q1, q2, q3, q4⟩ := hq
  exact ⟨q0, q1, q2, va_K.moved (u := U) (U := U.calling g mk a) (Vm.Alike.refl U.vm) q3, q4.calling⟩
theorem W_sz {p : Program} {l : Launch} {e : Env} {R : Room} {s : State} {m : MethodId} {args : Array Value} {below : List Frame} {meth : Method} {c : Code} {H : Heap} {locs : List Loc} {cells slots : Nat} {Q : State → Prop} {g : JFrame} (kk : H.size ≤ s.heap.size + cells → W p l e R s m args below meth c H locs cells slots Q g) : W p l e R s m args below meth c H locs cells slots Q g :=
  fun T hT X => kk (by rw [← hT]; exact X.same.2.2.1) T hT X
theorem W_call {p : Program} {l : Launch} {e : Env} {R : Room} {s : State} {m : MethodId} {args : Array Value} {below : List Frame} {meth : Method} {c : Code} {H : Heap} {locs : List Loc} {cells slots mc ms pc : Nat} {Q : State → Prop} {ls : Array Slot} {st0 rest : List Value} {Qa : State → Outcome → State → Prop} {free A : Nat → Prop}
    (hr : va_Run p l e R s m args below meth c H locs cells slots mc ms (F0 m pc ls st0) rest Qa free) (hl : ∀ q ∈ locs, A q.base) (hf : ∀ q, free q → A q)
    (kk : ∀ (v : Option Value) (st₀ t : State) (H1 : Heap) (locs1 : List Loc), st₀.heap = H → t.heap = H1 → s.vm.Alike t.vm → Qa st₀ (.returned v) t → (∀ q ∈ locs1, A q.base) → W p l e R s m args below meth c H1 locs1 (cells + mc) (slots + ms) Q (F0 m (pc + 3) ls (v.toList ++ rest))) : W p l e R s m args below meth c H locs cells slots Q (F0 m pc ls st0) := by
  intro T hT X
  obtain ⟨v, st₀, t, T', L, h0, X', hL, e1, e2, hq, st⟩ := hr T hT X
  obtain ⟨t2, a1, b1⟩ := kk v st₀ t T'.heap (locs ++ L) h0 e1.symm (by rw [← e2]; exact X'.warmed.alike) hq (fun q hq => by
    rcases List.mem_append.mp hq with h | h
    · exact hl q h
    · exact hf _ (hL q h)) T' rfl X'
  exact ⟨t2, st t2 a1, b1⟩
theorem V_get {a idx ci j : Nat} {ty : FieldType} {fin : Bool} {fs : List Value} {v : Value} (hd : Dc cc pc (.getfield idx) 3 nx) (hf : FL own idx ci j ty fin) (he : h a = some (.inr (ci, fs))) (hv : fs[j]? = some v)
    (kk : V G l own mn cc mL ret R E Qc sz k n nx L (v :: st) h) : V G l own mn cc mL ret R E Qc sz k n pc L (.ref a :: st) h := by
  obtain ⟨hd, rfl⟩ := hd
  obtain ⟨C0, T, tyf, N, ⟨hc, hin, -, -⟩, hj, -, -, hT, hk⟩ := hf
  intro p e s m args below meth c A H locs ls C hE hF hz hh hS hA hl
  have kk' := kk p e s m args below meth c A H locs ls C hE hF hz hh hS hA hl
  obtain ⟨ws, hr, hP, hD⟩ := hh
  obtain ⟨q0, hq0⟩ := (hr a _).mp he
  rcases hk with hk | ⟨host, hk⟩
  · exact va_get C.1 C.2.1 C.2.2.2.2.2.2.1 hin C.2.2.2.1 C.2.2.2.2.2.2.2.1 hP q0 hq0 hc j hj (C.2.2.2.2.2.2.1 _ hk) (fun x hx => by rw [hT] at hx; exact hx) hv hd kk'
  · exact va_getN C.1 C.2.1 C.2.2.2.2.2.2.1 hin C.2.2.2.1 C.2.2.2.2.2.2.2.1 hP q0 hq0 hc j hj (va_Nw.use rfl (hF.2.2.2 _ hk)) (fun x hx => by rw [hT] at hx; exact hx) hv hd kk'
theorem V_put {a idx ci j : Nat} {ty : FieldType} {fs fs' : List Value} {v : Value} (hd : Dc cc pc (.putfield idx) 3 nx) (hf : FL own idx ci j ty false) (he : h a = some (.inr (ci, fs))) (hn : narrow ty v = v) (hfit : fits ty v = true) (hj : j < fs.length) (hs : fs.set j v = fs')
    (kk : V G l own mn cc mL ret R E Qc sz k n nx L st (hset h a (.inr (ci, fs')))) : V G l own mn cc mL ret R E Qc sz k n pc L (v :: .ref a :: st) h := by
  obtain ⟨hd, rfl⟩ := hd
  subst hs
  obtain ⟨C0, T, tyf, N, ⟨hc, hin, hty, hnm⟩, hj2, ht, hfin, hT, hk⟩ := hf
  intro p e s m args below meth c A H locs ls C hE hF hz hh hS hA hl
  obtain ⟨ws, hr, hP, hD⟩ := hh
  obtain ⟨q0, hq0⟩ := (hr a _).mp he
  have fin : ∀ (H1 : Heap) (locs1 : List Loc), va_P G.1 vwCl (ws.set q0 (a, .inr (ci, fs.set j v))) H1 → va_D A (ws.set q0 (a, .inr (ci, fs.set j v))) → va_S A H H1 locs1 → W p l e R s m args below meth c H1 locs1 k n (Qc args s below A) (F0 m (pc + 3) ls st) := by
    intro H1 locs1 hP1 hD1 hS1
    refine W_sz (fun hle => ?_)
    have h1 := hS1.1
    exact kk p e s m args below meth c A H1 locs1 ls C hE hF ⟨hz.1, by omega⟩ ⟨_, hRel_set hr hD hq0, hP1, hD1⟩ (hS.tr hS1) hA hl
  rcases hk with hk | ⟨host, hk⟩
  · exact va_put C.1 C.2.1 C.2.2.2.2.2.2.1 hin tyf hty hnm C.2.2.2.1 C.2.2.2.2.2.2.2.1 hP hD hS.at q0 hq0 hc j hj2 (C.2.2.2.2.2.2.1 _ hk) (fun x hx => by rw [hT] at hx; exact hx) hfin (by rw [hty j hj2, ht]) hn hfit hj hd fin
  · exact va_putN C.1 C.2.1 C.2.2.2.2.2.2.1 hin tyf hty hnm C.2.2.2.1 C.2.2.2.2.2.2.2.1 hP hD hS.at q0 hq0 hc j hj2 (va_Nw.use rfl (hF.2.2.2 _ hk)) (fun x hx => by rw [hT] at hx; exact hx) hfin (by rw [hty j hj2, ht]) hn hfit hj hd fin
theorem V_putF {a idx ci j : Nat} {C0 : String} {T : u_T} {tyf : Nat → FieldType} {N : Nat} {fs fs' : List Value} {v : Value} (hd : Dc cc pc (.putfield idx) 3 nx) (hmn : mn = "<init>") (hCK : CK ci own T tyf N) (hj2 : j < N) (hfin : (T j).2.2.2 = true) (hT : (T j).1 = own) (hk : Cond.fieldLink own idx own (T j).2.1 (T j).2.2.1 ∈ lw_gtb) (he : h a = some (.inr (ci, fs))) (hn : narrow (tyf j) v = v) (hfit : fits (tyf j) v = true) (hj : j < fs.length) (hs : fs.set j v = fs')
    (kk : V G l own mn cc mL ret R E Qc sz k n nx L st (hset h a (.inr (ci, fs')))) : V G l own mn cc mL ret R E Qc sz k n pc L (v :: .ref a :: st) h := by
  obtain ⟨hd, rfl⟩ := hd
  subst hs
  obtain ⟨hc, hin, hty, hnm⟩ := hCK
  intro p e s m args below meth c A H locs ls C hE hF hz hh hS hA hl
  obtain ⟨ws, hr, hP, hD⟩ := hh
  obtain ⟨q0, hq0⟩ := (hr a _).mp he
  exact va_putF C.1 C.2.1 C.2.2.2.2.2.2.1 hin tyf hty hnm C.2.2.2.1 C.2.2.2.2.2.2.2.1 hP hD hS.at q0 hq0 hc j hj2 (C.2.2.2.2.2.2.1 _ hk) (fun x hx => by rw [hT] at hx; exact hx) hfin (C.2.2.2.2.2.2.2.2.trans hmn) hT (hty j hj2) hn hfit hj hd (fun H1 locs1 hP1 hD1 hS1 => W_sz (fun hle => by
    have h1 := hS1.1
    exact kk p e s m args below meth c A H1 locs1 ls C hE hF ⟨hz.1, by omega⟩ ⟨_, hRel_set hr hD hq0, hP1, hD1⟩ (hS.tr hS1) hA hl))
theorem V_alen {a : Nat} {cA : ClassId} {x : vp_A} {v : Int32} (hd : Dc cc pc .arraylength 1 nx) (he : h a = some (.inl (cA, x))) (ht : ∃ (t0 : Nat) (ty : FieldType), (gtys G)[t0]? = some (cA, ty)) (hv : Int32.ofNat x.1 = v)
    (kk : V G l own mn cc mL ret R E Qc sz k n nx L (.int v :: st) h) : V G l own mn cc mL ret R E Qc sz k n pc L (.ref a :: st) h := by
  obtain ⟨hd, rfl⟩ := hd
  obtain ⟨t0, ty, ht⟩ := ht
  intro p e s m args below meth c A H locs ls C hE hF hz hh hS hA hl
  have kk' := kk p e s m args below meth c A H locs ls C hE hF hz hh hS hA hl
  obtain ⟨ws, hr, hP, hD⟩ := hh
  obtain ⟨q0, hq0⟩ := (hr a _).mp he
  exact va_alen C.1 C.2.1 C.2.2.2.2.2.2.2.1 hP q0 t0 hq0 ht hv hd kk'
theorem V_aleni {a N : Nat} {f : Nat → Int32} {v : Int32} (hd : Dc cc pc .arraylength 1 nx) (he : h a = some (iA G N f)) (hv : Int32.ofNat N = v)
    (kk : V G l own mn cc mL ret R E Qc sz k n nx L (.int v :: st) h) : V G l own mn cc mL ret R E Qc sz k n pc L (.ref a :: st) h := V_alen hd he ⟨0, .int, rfl⟩ hv kk
theorem V_alenc {a N : Nat} {f : Nat → Int32} {v : Int32} (hd : Dc cc pc .arraylength 1 nx) (he : h a = some (chA G N f)) (hv : Int32.ofNat N = v)
    (kk : V G l own mn cc mL ret R E Qc sz k n nx L (.int v :: st) h) : V G l own mn cc mL ret R E Qc sz k n pc L (.ref a :: st) h := V_alen hd he ⟨1, .char, rfl⟩ hv kk
theorem V_alens {a N : Nat} {f : Nat → Option Nat} {v : Int32} (hd : Dc cc pc .arraylength 1 nx) (he : h a = some (sA G N f)) (hv : Int32.ofNat N = v)
    (kk : V G l own mn cc mL ret R E Qc sz k n nx L (.int v :: st) h) : V G l own mn cc mL ret R E Qc sz k n pc L (.ref a :: st) h := V_alen hd he ⟨2, _, rfl⟩ hv kk
theorem V_iald {a N : Nat} {f : Nat → Int32} {i v : Int32} (hd : Dc cc pc .iaload 1 nx) (he : h a = some (iA G N f)) (hi : vp_in i N) (hv : f i.toNatClampNeg = v)
    (kk : V G l own mn cc mL ret R E Qc sz k n nx L (.int v :: st) h) : V G l own mn cc mL ret R E Qc sz k n pc L (.int i :: .ref a :: st) h := by
  obtain ⟨hd, rfl⟩ := hd
  subst hv
  intro p e s m args below meth c A H locs ls C hE hF hz hh hS hA hl
  have kk' := kk p e s m args below meth c A H locs ls C hE hF hz hh hS hA hl
  obtain ⟨ws, hr, hP, hD⟩ := hh
  obtain ⟨q0, hq0⟩ := (hr a _).mp he
  exact va_iald C.1 C.2.1 C.2.2.2.2.2.2.2.1 hP q0 0 hq0 rfl hi hd kk'
theorem V_cald {a N : Nat} {f : Nat → Int32} {i v : Int32} (hd : Dc cc pc .caload 1 nx) (he : h a = some (chA G N f)) (hi : vp_in i N) (hv : f i.toNatClampNeg = v)
    (kk : V G l own mn cc mL ret R E Qc sz k n nx L (.int v :: st) h) : V G l own mn cc mL ret R E Qc sz k n pc L (.int i :: .ref a :: st) h := by
  obtain ⟨hd, rfl⟩ := hd
  subst hv
  intro p e s m args below meth c A H locs ls C hE hF hz hh hS hA hl
  have kk' := kk p e s m args below meth c A H locs ls C hE hF hz hh hS hA hl
  obtain ⟨ws, hr, hP, hD⟩ := hh
  obtain ⟨q0, hq0⟩ := (hr a _).mp he
  exact va_cald C.1 C.2.1 C.2.2.2.2.2.2.2.1 hP q0 1 hq0 rfl hi hd kk'
theorem V_aald {a N : Nat} {f : Nat → Option Nat} {i : Int32} {v : Value} (hd : Dc cc pc .aaload 1 nx) (he : h a = some (sA G N f)) (hi : vp_in i N) (hv : va_rf (f i.toNatClampNeg) = v)
    (kk : V G l own mn cc mL ret R E Qc sz k n nx L (v :: st) h) : V G l own mn cc mL ret R E Qc sz k n pc L (.int i :: .ref a :: st) h := by
  obtain ⟨hd, rfl⟩ := hd
  subst hv
  intro p e s m args below meth c A H locs ls C hE hF hz hh hS hA hl
  have kk' := kk p e s m args below meth c A H locs ls C hE hF hz hh hS hA hl
  obtain ⟨ws, hr, hP, hD⟩ := hh
  obtain ⟨q0, hq0⟩ := (hr a _).mp he
  exact va_aldq C.1 C.2.1 C.2.2.2.2.2.2.2.1 hP q0 2 hq0 rfl hi hd kk'
theorem V_iast {a N : Nat} {f : Nat → Int32} {i x : Int32} (hd : Dc cc pc .iastore 1 nx) (he : h a = some (iA G N f)) (hi : vp_in i N)
    (kk : V G l own mn cc mL ret R E Qc sz k n nx L st (hset h a (iA G N (upd f i.toNatClampNeg x)))) : V G l own mn cc mL ret R E Qc sz k n pc L (.int x :: .int i :: .ref a :: st) h := by
  obtain ⟨hd, rfl⟩ := hd
  intro p e s m args below meth c A H locs ls C hE hF hz hh hS hA hl
  obtain ⟨ws, hr, hP, hD⟩ := hh
  obtain ⟨q0, hq0⟩ := (hr a _).mp he
  exact va_iast C.1 C.2.1 C.2.2.2.2.2.2.2.1 hP hD hS.at q0 0 hq0 rfl hi hd (fun H1 locs1 hP1 hD1 hS1 => W_sz (fun hle => by
    have h1 := hS1.1
    exact kk p e s m args below meth c A H1 locs1 ls C hE hF ⟨hz.1, by omega⟩ ⟨_, hRel_set hr hD hq0, hP1, hD1⟩ (hS.tr hS1) hA hl))
theorem V_cast {a N : Nat} {f : Nat → Int32} {i x : Int32} (hd : Dc cc pc .castore 1 nx) (he : h a = some (chA G N f)) (hi : vp_in i N)
    (kk : V G l own mn cc mL ret R E Qc sz k n nx L st (hset h a (chA G N (upd f i.toNatClampNeg (vp_nar .char x))))) : V G l own mn cc mL ret R E Qc sz k n pc L (.int x :: .int i :: .ref a :: st) h := by
  obtain ⟨hd, rfl⟩ := hd
  intro p e s m args below meth c A H locs ls C hE hF hz hh hS hA hl
  obtain ⟨ws, hr, hP, hD⟩ := hh
  obtain ⟨q0, hq0⟩ := (hr a _).mp he
  exact va_cast C.1 C.2.1 C.2.2.2.2.2.2.2.1 hP hD hS.at q0 1 hq0 rfl hi hd (fun H1 locs1 hP1 hD1 hS1 => W_sz (fun hle => by
    have h1 := hS1.1
    exact kk p e s m args below meth c A H1 locs1 ls C hE hF ⟨hz.1, by omega⟩ ⟨_, hRel_set hr hD hq0, hP1, hD1⟩ (hS.tr hS1) hA hl))
theorem V_aast {a N v : Nat} {f : Nat → Option Nat} {i : Int32} {vs : List Value} (hd : Dc cc pc .aastore 1 nx) (he : h a = some (sA G N f)) (hi : vp_in i N) (hv : h v = some (.inr (4, vs)))
    (kk : V G l own mn cc mL ret R E Qc sz k n nx L st (hset h a (sA G N (va_up f i.toNatClampNeg (some v))))) : V G l own mn cc mL ret R E Qc sz k n pc L (.ref v :: .int i :: .ref a :: st) h := by
  obtain ⟨hd, rfl⟩ := hd
  intro p e s m args below meth c A H locs ls C hE hF hz hh hS hA hl
  obtain ⟨ws, hr, hP, hD⟩ := hh
  obtain ⟨q0, hq0⟩ := (hr a _).mp he
  obtain ⟨qk, hqk⟩ := (hr v _).mp hv
  exact va_astq C.1 C.2.1 C.2.2.2.2.2.2.2.1 hP hD hS.at q0 2 qk 4 hq0 (r := (RX4, TX4, 8)) rfl hqk rfl hi hd (fun H1 locs1 hP1 hD1 hS1 => W_sz (fun hle => by
    have h1 := hS1.1
    exact kk p e s m args below meth c A H1 locs1 ls C hE hF ⟨hz.1, by omega⟩ ⟨_, hRel_set hr hD hq0, hP1, hD1⟩ (hS.tr hS1) hA hl))

theorem V_iret {Qf : Option Value → Hp → Prop} {v : Int32} {mc ms : Nat} (hd : Dc cc pc .ireturn 1 nx) (hr : ret = some .int) (hk : k = mc) (hn : n = ms) (hq : Qf (some (.int v)) h) : V G l own mn cc mL ret R E (Qm G Qf sz mc ms) sz k n pc L [.int v] h := by
  obtain ⟨hd, -⟩ := hd
  subst hk; subst hn
  intro p e s m args below meth c A H locs ls C hE hF hz hh hS hA hl
  exact W.iret C.1 C.2.1 (C.2.2.2.2.1.trans hr) (fun t ht hW => ⟨_, h, rfl, hq, by rw [ht]; exact hz.2, by rw [ht]; exact hh, va_K.moved hW.alike C.2.2.2.2.2.2.2.1, hS.F ht⟩) hS.2.2 hd C.2.2.2.2.2.1
theorem V_zret {Qf : Option Value → Hp → Prop} {v : Int32} {mc ms : Nat} {ty : FieldType} (hd : Dc cc pc .ireturn 1 nx) (hr : ret = some ty) (hnw : narrow ty (.int v) = .int v) (hk : k = mc) (hn : n = ms) (hq : Qf (some (.int v)) h) : V G l own mn cc mL ret R E (Qm G Qf sz mc ms) sz k n pc L [.int v] h := by
  obtain ⟨hd, -⟩ := hd
  subst hk; subst hn
  intro p e s m args below meth c A H locs ls C hE hF hz hh hS hA hl
  exact W.zret C.1 C.2.1 (C.2.2.2.2.1.trans hr) hnw (fun t ht hW => ⟨_, h, rfl, hq, by rw [ht]; exact hz.2, by rw [ht]; exact hh, va_K.moved hW.alike C.2.2.2.2.2.2.2.1, hS.F ht⟩) hS.2.2 hd C.2.2.2.2.2.1
theorem V_vret {Qf : Option Value → Hp → Prop} {mc ms : Nat} (hd : Dc cc pc .return_ 1 nx) (hr : ret = none) (hk : k = mc) (hn : n = ms) (hq : Qf none h) : V G l own mn cc mL ret R E (Qm G Qf sz mc ms) sz k n pc L [] h := by
  obtain ⟨hd, -⟩ := hd
  subst hk; subst hn
  intro p e s m args below meth c A H locs ls C hE hF hz hh hS hA hl
  exact W.vret C.1 C.2.1 (C.2.2.2.2.1.trans hr) (fun t ht hW => ⟨_, h, rfl, hq, by rw [ht]; exact hz.2, by rw [ht]; exact hh, va_K.moved hW.alike C.2.2.2.2.2.2.2.1, hS.F ht⟩) hS.2.2 hd C.2.2.2.2.2.1

theorem va_recvH {D : va_G} {A : Nat → Prop} {tys : List (ClassId × FieldType)} {s : State} {H : Heap} {b ci : Nat} {fs : List Value} {C : String} (hK : va_K D vwCl tys s) (hh : HH D A h H) (he : h b = some (.inr (ci, fs))) (hc : (vwCl[ci]?).map (fun q => q.1) = some C) : ∃ cellB : Cell, H[b]? = some cellB ∧ cellB.vm.isStatics = false ∧ s.vm.findClass C = some cellB.cls := by
  obtain ⟨ws, hr, hP, hD⟩ := hh
  obtain ⟨q0, hq0⟩ := (hr b _).mp he
  cases hx : vwCl[ci]? with
  | none => rw [hx] at hc; simp at hc
  | some r =>
    rw [hx] at hc
    simp at hc
    subst hc
    exact va_recv (q0 := q0) hK hP hx hq0
theorem Ax_in {A : Nat → Prop} {H : Heap} {D : va_G} {s : State} {sz : Nat} (hh : HH D A h H) (hA : ∀ q, s.heap.size ≤ q → A q) (hz : s.heap.size ≤ sz) : ∀ q, Ax h sz q → A q := by
  intro q hq
  rcases hq with ⟨e, he⟩ | hq
  · exact hh.in he
  · exact hA q (by omega)
/-- the end of a call: the world behind it -/
theorem V_end {p : Program} {e : Env} {s : State} {m : MethodId} {args : Array Value} {below : List Frame} {meth : Method} {c : Code} {A : Nat → Prop} {H : Heap} {ls : Array Slot} {rest st0 : List Value} {mc' ms' : Nat} {Qf : Option Value → Hp → Prop} {locs : List Loc}
    (C : Cx G own mn cc mL ret p s m args meth c) (hE : E s A args) (hF : SF G A s s.heap) (hz : s.heap.size = sz ∧ H.size = sz + k) (hh : HH G.1 A h H) (hS : va_S A s.heap H locs) (hA : ∀ q, s.heap.size ≤ q → A q) (hl : hasL ls mL L)
    (hr : va_Run p l e R s m args below meth c H locs k n mc' ms' (F0 m pc ls st0) rest (Qpost G Qf (sz + k) mc' (Ax h (sz + k)) args) (Ax h (sz + k))) (hn : pc + 3 = nx)
    (kk : ∀ (r : Option Value) (h' : Hp), Qf r h' → V G l own mn cc mL ret R E Qc sz (k + mc') (n + ms') nx L (r.toList ++ rest) h') : W p l e R s m args below meth c H locs k n (Qc args s below A) (F0 m pc ls st0) := by
  subst hn
  have hAx : ∀ q, Ax h (sz + k) q → A q := Ax_in hh hA (by omega)
  refine W_call hr hS.2.2 hAx (fun v st₀ t H1 locs1 h0 ht hvm hq hl1 => ?_)
  obtain ⟨r, h', e1, e2, e3, e4, e5, e6⟩ := hq
  cases e1
  rw [ht] at e3 e4
  have e6a := e6.1
  have e6b := e6.2
  rw [h0, ht] at e6a
  rw [h0, ht] at e6b
  have hS1 : va_S A H H1 locs1 := ⟨e6a, fun q a b => e6b q a (fun z => b (hAx q z)), hl1⟩
  exact kk _ h' e2 p e s m args below meth c A H1 locs1 ls C hE hF ⟨hz.1, by omega⟩ (e4.weaken hAx) (hS.tr hS1) hA hl
theorem pre_ok {p : Program} {s : State} {m : MethodId} {args : Array Value} {meth : Method} {c : Code} {A : Nat → Prop} {H : Heap} {locs : List Loc}
    (C : Cx G own mn cc mL ret p s m args meth c) (hF : SF G A s s.heap) (hz : s.heap.size = sz ∧ H.size = sz + k) (hh : HH G.1 A h H) (hS : va_S A s.heap H locs) (hA : ∀ q, s.heap.size ≤ q → A q) : ∀ U : State, U.heap = H → s.WarmedH U.vm → hPre G (sz + k) h U := by
  intro U hU hW
  refine ⟨by rw [hU]; exact hz.2, by rw [hU]; exact hh.weaken (fun _ _ => trivial), va_K.moved hW.alike C.2.2.2.2.2.2.2.1, ?_⟩
  have h1 : SF G A s H := hF.kept (fun q a b => hS.2.1 q a b)
  rw [hU]
  exact (h1.narrow (Ax_in hh hA (by omega))).warm hW
theorem V_callV {y : MethodName} {yc : ByteArray} {ymL d' mc' ms' idx b ci : Nat} {yret : Option FieldType} {As rest stk fs : List Value} {Qf : Option Value → Hp → Prop} (hd : Dc cc pc (.invokevirtual idx) 3 nx) (hk : LkV own idx y) (hy : Yk y yc ymL yret As.length) (he : h b = some (.inr (ci, fs))) (hci : (vwCl[ci]?).map (fun q => q.1) = some y.cls)
    (hm : Ct G l y yc ymL yret d' mc' ms' (sz + k) (.ref b :: As) h Qf) (hst : stk = As.reverse ++ .ref b :: rest) (h8 : (rest.map fun v => v.category).sum ≤ 8) (hR : d' + 1 ≤ R.frames ∧ 8 + (ymL + 11) + 31 * d' ≤ R.locals ∧ k + mc' ≤ R.cells ∧ n + ms' ≤ R.slots)
    (kk : ∀ (r : Option Value) (h' : Hp), Qf r h' → V G l own mn cc mL ret R E Qc sz (k + mc') (n + ms') nx L (r.toList ++ rest) h') : V G l own mn cc mL ret R E Qc sz k n pc L stk h := by
  obtain ⟨hd, hn⟩ := hd
  obtain ⟨hk0, hk1, hk2⟩ := hk
  intro p e s m args below meth c A H locs ls C hE hF hz hh hS hA hl
  have tb := C.2.2.2.2.2.2.1
  have hp : PreV s H y.cls b (va_Pc (.ref b :: As) (hPre G (sz + k) h)) As := ⟨hPre.blind, va_recvH C.2.2.2.2.2.2.2.1 hh he hci, fun U hU hW => ⟨rfl, pre_ok C hF hz hh hS hA U hU hW⟩⟩
  refine V_end C hE hF hz hh hS hA hl ?_ hn kk
  rcases hk0 with hk0 | ⟨host, hk0⟩
  · exact va_runV (As := As) (rest := rest) ⟨C.1, C.2.1, C.2.2.1, C.2.2.2.1, tb⟩ hm ⟨callB_of As.length tb (good_wsY hy.1) rfl rfl rfl (tb _ hy.2.1) (tb _ hk0) hy.2.2 ⟨hR.1, hR.2.1⟩, tb _ hk1, tb _ hk2⟩ hp rfl rfl hl.1 hst (lv_room h8) hd hR.2.2
  · exact va_runVN (As := As) (rest := rest) ⟨C.1, C.2.1, C.2.2.1, C.2.2.2.1, tb⟩ hm ⟨va_cnB As.length tb (good_wsY hy.1) rfl rfl rfl (hF.2.2.2 _ hk0) (tb _ hy.2.1) hy.2.2 ⟨hR.1, hR.2.1⟩, tb _ hk1, tb _ hk2⟩ hp rfl rfl hl.1 hst (lv_room h8) hd hR.2.2
theorem V_callS {y : MethodName} {yc : ByteArray} {ymL d' mc' ms' idx : Nat} {yret : Option FieldType} {As rest stk : List Value} {Qf : Option Value → Hp → Prop} (hd : Dc cc pc (.invokestatic idx) 3 nx) (hk : LkS own idx y) (hy : Yk y yc ymL yret As.length)
    (hm : Ct G l y yc ymL yret d' mc' ms' (sz + k) As h Qf) (hst : stk = As.reverse ++ rest) (h8 : (rest.map fun v => v.category).sum ≤ 8) (hR : d' + 1 ≤ R.frames ∧ 8 + (ymL + 11) + 31 * d' ≤ R.locals ∧ k + mc' ≤ R.cells ∧ n + ms' ≤ R.slots)
    (kk : ∀ (r : Option Value) (h' : Hp), Qf r h' → V G l own mn cc mL ret R E Qc sz (k + mc') (n + ms') nx L (r.toList ++ rest) h') : V G l own mn cc mL ret R E Qc sz k n pc L stk h := by
  obtain ⟨hd, hn⟩ := hd
  obtain ⟨hk0, hk1⟩ := hk
  intro p e s m args below meth c A H locs ls C hE hF hz hh hS hA hl
  have tb := C.2.2.2.2.2.2.1
  have hp : PreS s H (va_Pc As (hPre G (sz + k) h)) As := ⟨hPre.blind, fun U hU hW => ⟨rfl, pre_ok C hF hz hh hS hA U hU hW⟩⟩
  refine V_end C hE hF hz hh hS hA hl ?_ hn kk
  rcases hk0 with hk0 | ⟨host, hk0⟩
  · exact va_runS (As := As) (rest := rest) ⟨C.1, C.2.1, C.2.2.1, C.2.2.2.1, tb⟩ hm ⟨callB_of As.length tb (good_wsY hy.1) rfl rfl rfl (tb _ hy.2.1) (tb _ hk0) hy.2.2 ⟨hR.1, hR.2.1⟩, tb _ hk1⟩ hp rfl rfl hl.1 hst (lv_room h8) hd hR.2.2
  · exact va_runSN (As := As) (rest := rest) ⟨C.1, C.2.1, C.2.2.1, C.2.2.2.1, tb⟩ hm ⟨va_cnB As.length tb (good_wsY hy.1) rfl rfl rfl (hF.2.2.2 _ hk0) (tb _ hy.2.1) hy.2.2 ⟨hR.1, hR.2.1⟩, tb _ hk1, trivial⟩ hp rfl rfl hl.1 hst (lv_room h8) hd hR.2.2
theorem V_callI {y : MethodName} {yc : ByteArray} {ymL d' mc' ms' idx b : Nat} {As rest stk : List Value} {Qf : Option Value → Hp → Prop} (hd : Dc cc pc (.invokespecial idx) 3 nx) (hk : LkI own idx y) (hy : Yk y yc ymL none As.length)
    (hm : Ct G l y yc ymL none d' mc' ms' (sz + k) (.ref b :: As) h Qf) (hst : stk = As.reverse ++ .ref b :: rest) (h8 : (rest.map fun v => v.category).sum ≤ 8) (hR : d' + 1 ≤ R.frames ∧ 8 + (ymL + 11) + 31 * d' ≤ R.locals ∧ k + mc' ≤ R.cells ∧ n + ms' ≤ R.slots)
    (kk : ∀ (r : Option Value) (h' : Hp), Qf r h' → V G l own mn cc mL ret R E Qc sz (k + mc') (n + ms') nx L (r.toList ++ rest) h') : V G l own mn cc mL ret R E Qc sz k n pc L stk h := by
  obtain ⟨hd, hn⟩ := hd
  obtain ⟨hk0, hk1, hk2⟩ := hk
  intro p e s m args below meth c A H locs ls C hE hF hz hh hS hA hl
  have tb := C.2.2.2.2.2.2.1
  have hp : PreS s H (va_Pc (.ref b :: As) (hPre G (sz + k) h)) (.ref b :: As) := ⟨hPre.blind, fun U hU hW => ⟨rfl, pre_ok C hF hz hh hS hA U hU hW⟩⟩
  refine V_end C hE hF hz hh hS hA hl ?_ hn kk
  rcases hk0 with hk0 | ⟨host, hk0⟩
  · exact va_runI (As := As) (rest := rest) ⟨C.1, C.2.1, C.2.2.1, C.2.2.2.1, tb⟩ hm ⟨callB_of As.length tb (good_wsY hy.1) rfl rfl rfl (tb _ hy.2.1) (tb _ hk0) hy.2.2 ⟨hR.1, hR.2.1⟩, hk2, tb _ hk1⟩ hp rfl rfl hl.1 hst (lv_room h8) hd hR.2.2
  · exact va_runIN (As := As) (rest := rest) ⟨C.1, C.2.1, C.2.2.1, C.2.2.2.1, tb⟩ hm ⟨va_cnB As.length tb (good_wsY hy.1) rfl rfl rfl (hF.2.2.2 _ hk0) (tb _ hy.2.1) hy.2.2 ⟨hR.1, hR.2.1⟩, hk2, tb _ hk1⟩ hp rfl rfl hl.1 hst (lv_room h8) hd hR.2.2

theorem HH.push {D : va_G} {A : Nat → Prop} {h : Hp} {H H1 : Heap} {a : Nat} {e1 : va_E} (hh : HH D A h H) (ha : H.size = a) (hA : A a) (hq : ∀ q, q < a → H1[q]? = H[q]?) (he : va_at D vwCl (a, e1) H1) : HH D A (hset h a e1) H1 := by
  obtain ⟨ws, hr, hP, hD⟩ := hh
  have hk : ∀ (k : Nat) (x : Nat × va_E), ws[k]? = some x → H1[x.1]? = H[x.1]? := fun k x hx => hq x.1 (by rw [← ha]; exact (hP k x hx).lt)
  refine ⟨ws ++ [(a, e1)], hRel_push hr hP (by omega), (hP.kept hk).app (fun k x hx => ?_), hD.push hP ha.symm hA⟩
  have hz : k < 1 := (List.getElem?_eq_some_iff.mp hx).1
  rw [show k = 0 by omega] at hx
  cases hx
  exact he
theorem V_newi {i : Int32} {N : Nat} (hd : Dc cc pc (.newarray .int) 2 nx) (hN : i.toNatClampNeg = N) (hi : ¬ i < 0) (hb : N * 4 ≤ 536870912) (hc : k + 1 ≤ R.cells) (hs : n + N ≤ R.slots) (hw : Cond.arrayClass .int ∈ lw_gtb)
    (kk : V G l own mn cc mL ret R E Qc sz (k + 1) (n + N) nx L (.ref (sz + k) :: st) (hset h (sz + k) (iA G N (fun _ => 0)))) : V G l own mn cc mL ret R E Qc sz k n pc L (.int i :: st) h := by
  obtain ⟨hd, rfl⟩ := hd
  intro p e s m args below meth c A H locs ls C hE hF hz hh hS hA hl
  refine va_newaK (atype := .int) C.1 C.2.1 (C.2.2.2.2.2.2.1 _ hw) rfl hd rfl hi hN hb hc hs hz.2 (fun H1 cA e1 z1 o1 hAr hNm => ?_)
  have hcA : cA = G.2.1 := by
    have h1 := (C.2.2.2.2.2.2.2.1.2 0 (G.2.1, .int) rfl).2
    exact Option.some.inj (hNm.symm.trans h1)
  subst hcA
  exact kk p e s m args below meth c A H1 locs ls C hE hF ⟨hz.1, by omega⟩ (hh.push hz.2 (hA _ (by omega)) o1 (by
    show H1[sz + k]? = some (vp_cell _ _)
    rw [e1, vp_cell_i]
    rfl)) ⟨by have := hS.1; omega, fun q a b => (o1 q (by omega)).trans (hS.2.1 q a b), hS.2.2⟩ hA hl
theorem V_newc {i : Int32} {N : Nat} (hd : Dc cc pc (.newarray .char) 2 nx) (hN : i.toNatClampNeg = N) (hi : ¬ i < 0) (hb : N * 2 ≤ 536870912) (hc : k + 1 ≤ R.cells) (hs : n + N ≤ R.slots) (hw : Cond.arrayClass .char ∈ lw_gtb)
    (kk : V G l own mn cc mL ret R E Qc sz (k + 1) (n + N) nx L (.ref (sz + k) :: st) (hset h (sz + k) (chA G N (fun _ => 0)))) : V G l own mn cc mL ret R E Qc sz k n pc L (.int i :: st) h := by
  obtain ⟨hd, rfl⟩ := hd
  intro p e s m args below meth c A H locs ls C hE hF hz hh hS hA hl
  refine va_newaK (atype := .char) C.1 C.2.1 (C.2.2.2.2.2.2.1 _ hw) rfl hd rfl hi hN hb hc hs hz.2 (fun H1 cA e1 z1 o1 hAr hNm => ?_)
  have hcA : cA = G.2.2.1 := by
    have h1 := (C.2.2.2.2.2.2.2.1.2 1 (G.2.2.1, .char) rfl).2
    exact Option.some.inj (hNm.symm.trans h1)
  subst hcA
  exact kk p e s m args below meth c A H1 locs ls C hE hF ⟨hz.1, by omega⟩ (hh.push hz.2 (hA _ (by omega)) o1 (by
    show H1[sz + k]? = some (vp_cell _ _)
    rw [e1, vp_cell_i]
    rfl)) ⟨by have := hS.1; omega, fun q a b => (o1 q (by omega)).trans (hS.2.1 q a b), hS.2.2⟩ hA hl
theorem V_new {idx ci N : Nat} {C0 : String} {T : u_T} {tyf : Nat → FieldType} {fs : List Value} (hd : Dc cc pc (.new idx) 3 nx) (hCK : CK ci C0 T tyf N) (h1 : Cond.classLink own idx C0 ∈ lw_gtb) (h2 : Cond.instantiable C0 N ∈ lw_gtb) (h3 : Cond.initialized C0 ∈ lw_gtb) (hfs : ∀ j, j < N → defaultValue (tyf j) = vp_V fs j) (hc : k + 1 ≤ R.cells) (hs : n + N ≤ R.slots)
    (kk : V G l own mn cc mL ret R E Qc sz (k + 1) (n + N) nx L (.ref (sz + k) :: st) (hset h (sz + k) (.inr (ci, fs)))) : V G l own mn cc mL ret R E Qc sz k n pc L st h := by
  obtain ⟨hd, rfl⟩ := hd
  obtain ⟨hc0, hin, hty, hnm⟩ := hCK
  intro p e s m args below meth c A H locs ls C hE hF hz hh hS hA hl
  have tb := C.2.2.2.2.2.2.1
  have hKn := C.2.2.2.2.2.2.2.1.1 ci _ hc0
  refine W.newcK C.1 C.2.1 C.2.2.2.1 (tb _ h1) (tb _ h2) (tb _ h3) rfl hd hc hs hKn.2.1 hz.2 (fun H1 kC hkC e1 z1 o1 => ?_)
  exact kk p e s m args below meth c A H1 locs ls C hE hF ⟨hz.1, by omega⟩ (hh.push hz.2 (hA _ (by omega)) o1 ⟨_, hc0, (u_born tyf tb hin hKn hkC e1 hty).to hfs⟩) ⟨by have := hS.1; omega, fun q a b => (o1 q (by omega)).trans (hS.2.1 q a b), hS.2.2⟩ hA hl
theorem V_anew {idx : Nat} {i : Int32} {N : Nat} (hd : Dc cc pc (.anewarray idx) 3 nx) (h1 : Cond.classLink own idx "TryLoops$State" ∈ lw_gtb) (h2 : Cond.arrayOver (.object "TryLoops$State") ∈ lw_gtb) (hN : i.toNatClampNeg = N) (hi : ¬ i < 0) (hb : N * 4 ≤ 536870912) (hc : k + 1 ≤ R.cells) (hs : n + N ≤ R.slots)
    (kk : V G l own mn cc mL ret R E Qc sz (k + 1) (n + N) nx L (.ref (sz + k) :: st) (hset h (sz + k) (sA G N (fun _ => none)))) : V G l own mn cc mL ret R E Qc sz k n pc L (.int i :: st) h := by
  obtain ⟨hd, rfl⟩ := hd
  intro p e s m args below meth c A H locs ls C hE hF hz hh hS hA hl
  have tb := C.2.2.2.2.2.2.1
  have hz2 := hz.2
  subst hN
  refine W.anew C.1 C.2.1 C.2.2.2.1 (tb _ h1) (tb _ h2) rfl hd rfl hi hb hc hs (fun cA kA comp f1 f2 f3 f4 => ?_)
  generalize hH1 : H.push ({ cls := cA, slots := Array.replicate i.toNatClampNeg .null, vm := .none } : Cell) = H1
  have z1 : H1.size = H.size + 1 := by rw [← hH1, Array.size_push]
  have e1 : H1[H.size]? = some (arrV cA i.toNatClampNeg (fun _ => .null)) := by rw [← hH1, Array.getElem?_push_size, ← arrV_new]
  have o1 : ∀ q : Nat, q < H.size → H1[q]? = H[q]? := fun q hq => by rw [← hH1, Array.getElem?_push, if_neg (Nat.ne_of_lt hq)]
  have hcA : cA = G.2.2.2.1 := by
    obtain ⟨kA2, comp2, g1, g2, g3, g4⟩ := (C.2.2.2.2.2.2.2.1.2 2 (G.2.2.2.1, .object "TryLoops$State") rfl).2
    exact Option.some.inj (f1.symm.trans g4)
  subst hcA
  rw [← hz2] at kk
  exact kk p e s m args below meth c A H1 locs ls C hE hF ⟨hz.1, by omega⟩ (hh.push rfl (hA _ (by omega)) o1 (by
    show H1[H.size]? = some (vp_cell _ _)
    rw [e1, vp_cell_q]
    rfl)) ⟨by have := hS.1; omega, fun q a b => (o1 q (by omega)).trans (hS.2.1 q a b), hS.2.2⟩ hA hl
theorem V_oinit {idx a : Nat} (hd : Dc cc pc (.invokespecial idx) 3 nx) (h1 : Cond.methodLink own idx objectInit ∈ lw_gtb) (h2 : Cond.instanceMethod objectInit ∈ lw_gtb) (h3 : Cond.code objectInit ⟨#[0xb1]⟩ 1 none ∈ lw_gtb) (hf : 1 ≤ R.frames) (hl8 : (st.map fun v => v.category).sum + 12 ≤ R.locals)
    (kk : V G l own mn cc mL ret R E Qc sz k n nx L st h) : V G l own mn cc mL ret R E Qc sz k n pc L (.ref a :: st) h := by
  obtain ⟨hd, rfl⟩ := hd
  intro p e s m args below meth c A H locs ls C hE hF hz hh hS hA hl
  have tb := C.2.2.2.2.2.2.1
  refine W.objInit C.1 C.2.1 C.2.2.2.1 (tb _ h1) (tb _ h2) (tb _ h3) rfl (by rw [C.2.2.1]; exact hl.1) rfl hd hf (by show 2 * 0 + _ + 12 ≤ _; omega) ?_
  exact kk p e s m args below meth c A H locs ls C hE hF hz hh hS hA hl
theorem V_max {idx : Nat} {x y : Int32} (hd : Dc cc pc (.invokestatic idx) 3 nx) (h1 : Cond.methodLink own idx Lib.Math.max.name ∈ lw_gtb) (h2 : Cond.static Lib.Math.max.name ∈ lw_gtb) (h3 : Cond.initialized "java/lang/Math" ∈ lw_gtb) (h4 : Cond.code Lib.Math.max.name Lib.Math.max.code 2 (some .int) ∈ lw_gtb) (hf : 1 ≤ R.frames) (hl8 : (st.map fun v => v.category).sum + 13 ≤ R.locals) (hc : k ≤ R.cells) (hs : n ≤ R.slots)
    (kk : V G l own mn cc mL ret R E Qc sz k n nx L (.int (if x < y then y else x) :: st) h) : V G l own mn cc mL ret R E Qc sz k n pc L (.int y :: .int x :: st) h := by
  obtain ⟨hd, rfl⟩ := hd
  intro p e s m args below meth c A H locs ls C hE hF hz hh hS hA hl
  have tb := C.2.2.2.2.2.2.1
  exact va_mmax C.1 C.2.1 (by rw [C.2.2.1]; exact hl.1.symm) C.2.2.2.1 (tb _ h1) (tb _ h2) (tb _ h3) (tb _ h4) hf hl8 hc hs hd (kk p e s m args below meth c A H locs ls C hE hF hz hh hS hA hl)
theorem V_min {idx : Nat} {x y : Int32} (hd : Dc cc pc (.invokestatic idx) 3 nx) (h1 : Cond.methodLink own idx Lib.Math.min.name ∈ lw_gtb) (h2 : Cond.static Lib.Math.min.name ∈ lw_gtb) (h3 : Cond.initialized "java/lang/Math" ∈ lw_gtb) (h4 : Cond.code Lib.Math.min.name Lib.Math.min.code 2 (some .int) ∈ lw_gtb) (hf : 1 ≤ R.frames) (hl8 : (st.map fun v => v.category).sum + 13 ≤ R.locals) (hc : k ≤ R.cells) (hs : n ≤ R.slots)
    (kk : V G l own mn cc mL ret R E Qc sz k n nx L (.int (if y < x then y else x) :: st) h) : V G l own mn cc mL ret R E Qc sz k n pc L (.int y :: .int x :: st) h := by
  obtain ⟨hd, rfl⟩ := hd
  intro p e s m args below meth c A H locs ls C hE hF hz hh hS hA hl
  have tb := C.2.2.2.2.2.2.1
  exact va_mmin C.1 C.2.1 (by rw [C.2.2.1]; exact hl.1.symm) C.2.2.2.1 (tb _ h1) (tb _ h2) (tb _ h3) (tb _ h4) hf hl8 hc hs hd (kk p e s m args below meth c A H locs ls C hE hF hz hh hS hA hl)
theorem V_acopy {idx a0 a n0 n1 : Nat} {f g : Nat → Int32} {sp dp i : Int32} (hd : Dc cc pc (.invokestatic idx) 3 nx) (hk1 : Cond.methodLink own idx arraycopyName ∈ lw_gtb) (hk2 : Cond.native arraycopyName ∈ lw_gtb) (hk3 : Cond.static arraycopyName ∈ lw_gtb) (hk4 : Cond.initialized "java/lang/System" ∈ lw_gtb)
    (he0 : h a0 = some (iA G n0 f)) (he1 : h a = some (iA G n1 g)) (h1 : ¬ sp < 0) (h2 : ¬ dp < 0) (h3 : ¬ i < 0) (h4 : sp.toNatClampNeg + i.toNatClampNeg ≤ n0) (h5 : dp.toNatClampNeg + i.toNatClampNeg ≤ n1) (hf : 1 ≤ R.frames) (hl8 : (st.map fun v => v.category).sum + (nativeFrameWords "java/lang/System" "arraycopy" 5 + 11) ≤ R.locals)
    (kk : V G l own mn cc mL ret R E Qc sz k n nx L st (hset h a (iA G n1 (va_cpy f g sp.toNatClampNeg dp.toNatClampNeg i.toNatClampNeg)))) : V G l own mn cc mL ret R E Qc sz k n pc L (.int i :: .int dp :: .ref a :: .int sp :: .ref a0 :: st) h := by
  obtain ⟨hd, rfl⟩ := hd
  intro p e s m args below meth c A H locs ls C hE hF hz hh hS hA hl
  have tb := C.2.2.2.2.2.2.1
  obtain ⟨ws, hr, hP, hD⟩ := hh
  obtain ⟨q0, hq0⟩ := (hr a0 _).mp he0
  obtain ⟨q1, hq1⟩ := (hr a _).mp he1
  exact va_copyi C.1 C.2.1 (by rw [C.2.2.1]; exact hl.1.symm) C.2.2.2.1 (tb _ hk1) (tb _ hk2) (tb _ hk3) (tb _ hk4) C.2.2.2.2.2.2.2.1 hP hD hS.at q0 q1 0 0 hq0 hq1 rfl rfl rfl h1 h2 h3 h4 h5 (fun _ _ => rfl) hf hl8 hd (fun H1 locs1 hP1 hD1 hS1 => W_sz (fun hle => by
    have h1 := hS1.1
    exact kk p e s m args below meth c A H1 locs1 ls C hE hF ⟨hz.1, by omega⟩ ⟨_, hRel_set hr hD hq1, hP1, hD1⟩ (hS.tr hS1) hA hl))
theorem V_tIn {dflt lo hi : Int} {offs : Array Int} {len : Nat} {x : Int32} {off : Int} (hd : decode cc pc = .ok (.tableswitch dflt lo hi offs, len)) (h1 : ¬ x.toInt < lo) (h2 : ¬ hi < x.toInt) (ho : offs[(x.toInt - lo).toNat]? = some off) (ht : (pc : Int) + off = (tg : Int))
    (kk : V G l own mn cc mL ret R E Qc sz k n tg L st h) : V G l own mn cc mL ret R E Qc sz k n pc L (.int x :: st) h :=
  fun p e s m args below meth c A H locs ls C hE hF hz hh hS hA hl => lv_tableIn C.1 C.2.1 hd h1 h2 ho ht (kk p e s m args below meth c A H locs ls C hE hF hz hh hS hA hl)
theorem V_tOut {dflt lo hi : Int} {offs : Array Int} {len : Nat} {x : Int32} (hd : decode cc pc = .ok (.tableswitch dflt lo hi offs, len)) (h0 : x.toInt < lo ∨ hi < x.toInt) (ht : (pc : Int) + dflt = (tg : Int))
    (kk : V G l own mn cc mL ret R E Qc sz k n tg L st h) : V G l own mn cc mL ret R E Qc sz k n pc L (.int x :: st) h :=
  fun p e s m args below meth c A H locs ls C hE hF hz hh hS hA hl => lv_tableOut C.1 C.2.1 hd h0 ht (kk p e s m args below meth c A H locs ls C hE hF hz hh hS hA hl)
theorem V_look {dflt : Int} {ps : Array (Int × Int)} {len : Nat} {x : Int32} {off : Int} (hd : decode cc pc = .ok (.lookupswitch dflt ps, len)) (hp : (ps.toList.zip (ps.toList.drop 1)).all (fun (a, next) => a.1 < next.1) = true) (ho : Op.lookupswitch.offset ps.toList dflt x.toInt = off) (ht : (pc : Int) + off = (tg : Int))
    (kk : V G l own mn cc mL ret R E Qc sz k n tg L st h) : V G l own mn cc mL ret R E Qc sz k n pc L (.int x :: st) h :=
  fun p e s m args below meth c A H locs ls C hE hF hz hh hS hA hl => lv_lookup C.1 C.2.1 hd hp ho ht (kk p e s m args below meth c A H locs ls C hE hF hz hh hS hA hl)

end ROWS2
end
section
def R_law : String := "TryLoopsLaw"
theorem ckX0 : CK 0 RX0 TX0 tyX0 2 := ⟨rfl, by decide +kernel, tyX0_ok, nmX0⟩
theorem ckX1 : CK 1 RX1 TX1 tyX1 3 := ⟨rfl, by decide +kernel, tyX1_ok, nmX1⟩
theorem ckX2 : CK 2 RX2 TX2 tyX2 2 := ⟨rfl, by decide +kernel, tyX2_ok, nmX2⟩
theorem ckX3 : CK 3 RX3 TX3 tyX3 7 := ⟨rfl, by decide +kernel, tyX3_ok, nmX3⟩
theorem ckX4 : CK 4 RX4 TX4 tyX4 8 := ⟨rfl, by decide +kernel, tyX4_ok, nmX4⟩
theorem ckX5 : CK 5 RX5 TX5 tyX5 4 := ⟨rfl, by decide +kernel, tyX5_ok, nmX5⟩
theorem ckX6 : CK 6 RX6 TX6 tyX6 8 := ⟨rfl, by decide +kernel, tyX6_ok, nmX6⟩
theorem ckX7 : CK 7 RX7 TX7 tyX7 14 := ⟨rfl, by decide +kernel, tyX7_ok, nmX7⟩
theorem ykX6_init : Yk yX6_init cX6_init 1 none 0 := ⟨gm 66 (by decide +kernel) rfl, gm 47 (by decide +kernel) rfl, by decide +kernel⟩
theorem ykX4_init : Yk yX4_init cX4_init 1 none 0 := ⟨gm 74 (by decide +kernel) rfl, gm 48 (by decide +kernel) rfl, by decide +kernel⟩
theorem ykX2_init : Yk yX2_init cX2_init 1 none 0 := ⟨gm 80 (by decide +kernel) rfl, gm 49 (by decide +kernel) rfl, by decide +kernel⟩
theorem ykX3_init : Yk yX3_init cX3_init 5 none 2 := ⟨gm 95 (by decide +kernel) rfl, gm 50 (by decide +kernel) rfl, by decide +kernel⟩
theorem ykJ9_max_7cf53 : Yk yJ9_max_7cf53 cJ9_max_7cf53 2 (some .int) 2 := ⟨gm 99 (by decide +kernel) rfl, gm 51 (by decide +kernel) rfl, by decide +kernel⟩
theorem ykX0_init : Yk yX0_init cX0_init 2 none 0 := ⟨gm 162 (by decide +kernel) rfl, gm 52 (by decide +kernel) rfl, by decide +kernel⟩
theorem ykX5_init : Yk yX5_init cX5_init 1 none 0 := ⟨gm 179 (by decide +kernel) rfl, gm 53 (by decide +kernel) rfl, by decide +kernel⟩
theorem ykX1_init : Yk yX1_init cX1_init 1 none 0 := ⟨gm 204 (by decide +kernel) rfl, gm 54 (by decide +kernel) rfl, by decide +kernel⟩
theorem ykX6_step : Yk yX6_step cX6_step 4 (some .int) 2 := ⟨gm 251 (by decide +kernel) rfl, gm 47 (by decide +kernel) rfl, by decide +kernel⟩
theorem ykX6_isVerb : Yk yX6_isVerb cX6_isVerb 1 (some .boolean) 1 := ⟨gm 254 (by decide +kernel) rfl, gm 47 (by decide +kernel) rfl, by decide +kernel⟩
theorem ykX6_inRange : Yk yX6_inRange cX6_inRange 2 (some .boolean) 2 := ⟨gm 257 (by decide +kernel) rfl, gm 47 (by decide +kernel) rfl, by decide +kernel⟩
theorem ykX6_greatestNumber : Yk yX6_greatestNumber cX6_greatestNumber 2 (some .int) 1 := ⟨gm 260 (by decide +kernel) rfl, gm 47 (by decide +kernel) rfl, by decide +kernel⟩
theorem ykX4_openSize : Yk yX4_openSize cX4_openSize 1 (some .int) 0 := ⟨gm 264 (by decide +kernel) rfl, gm 48 (by decide +kernel) rfl, by decide +kernel⟩
theorem ykX3_sizeOf : Yk yX3_sizeOf cX3_sizeOf 2 (some .int) 1 := ⟨gm 268 (by decide +kernel) rfl, gm 50 (by decide +kernel) rfl, by decide +kernel⟩
theorem ykX0_push : Yk yX0_push cX0_push 2 none 1 := ⟨gm 272 (by decide +kernel) rfl, gm 52 (by decide +kernel) rfl, by decide +kernel⟩
theorem ykX0_dropOldest : Yk yX0_dropOldest cX0_dropOldest 3 none 0 := ⟨gm 276 (by decide +kernel) rfl, gm 52 (by decide +kernel) rfl, by decide +kernel⟩
theorem ykX4_copyFrom : Yk yX4_copyFrom cX4_copyFrom 2 none 1 := ⟨gm 280 (by decide +kernel) rfl, gm 48 (by decide +kernel) rfl, by decide +kernel⟩
theorem ykX2_copyFrom : Yk yX2_copyFrom cX2_copyFrom 2 none 1 := ⟨gm 284 (by decide +kernel) rfl, gm 49 (by decide +kernel) rfl, by decide +kernel⟩
theorem ykX6_copyNumbers : Yk yX6_copyNumbers cX6_copyNumbers 2 none 2 := ⟨gm 287 (by decide +kernel) rfl, gm 47 (by decide +kernel) rfl, by decide +kernel⟩
theorem ykJ9_min_7cf53 : Yk yJ9_min_7cf53 cJ9_min_7cf53 2 (some .int) 2 := ⟨gm 290 (by decide +kernel) rfl, gm 51 (by decide +kernel) rfl, by decide +kernel⟩
theorem ykX3_copyFrom : Yk yX3_copyFrom cX3_copyFrom 2 none 1 := ⟨gm 297 (by decide +kernel) rfl, gm 50 (by decide +kernel) rfl, by decide +kernel⟩
theorem ykX4_obey : Yk yX4_obey cX4_obey 4 (some .boolean) 2 := ⟨gm 302 (by decide +kernel) rfl, gm 48 (by decide +kernel) rfl, by decide +kernel⟩
theorem ykX2_obey : Yk yX2_obey cX2_obey 4 (some .boolean) 2 := ⟨gm 306 (by decide +kernel) rfl, gm 49 (by decide +kernel) rfl, by decide +kernel⟩
theorem ykX2_valueUnderHand : Yk yX2_valueUnderHand cX2_valueUnderHand 1 (some .int) 0 := ⟨gm 310 (by decide +kernel) rfl, gm 49 (by decide +kernel) rfl, by decide +kernel⟩
theorem ykX2_valueAt : Yk yX2_valueAt cX2_valueAt 2 (some .int) 1 := ⟨gm 314 (by decide +kernel) rfl, gm 49 (by decide +kernel) rfl, by decide +kernel⟩
theorem ykX2_put : Yk yX2_put cX2_put 3 none 2 := ⟨gm 318 (by decide +kernel) rfl, gm 49 (by decide +kernel) rfl, by decide +kernel⟩
theorem ykX3_append : Yk yX3_append cX3_append 7 none 4 := ⟨gm 322 (by decide +kernel) rfl, gm 50 (by decide +kernel) rfl, by decide +kernel⟩
theorem ykX3_hasPlace : Yk yX3_hasPlace cX3_hasPlace 2 (some .boolean) 1 := ⟨gm 327 (by decide +kernel) rfl, gm 50 (by decide +kernel) rfl, by decide +kernel⟩
theorem ykX6_record : Yk yX6_record cX6_record 1 (some .int) 0 := ⟨gm 332 (by decide +kernel) rfl, gm 47 (by decide +kernel) rfl, by decide +kernel⟩
theorem ykX3_isFull : Yk yX3_isFull cX3_isFull 1 (some .boolean) 0 := ⟨gm 336 (by decide +kernel) rfl, gm 50 (by decide +kernel) rfl, by decide +kernel⟩
theorem ykX3_emptyNext : Yk yX3_emptyNext cX3_emptyNext 1 none 0 := ⟨gm 340 (by decide +kernel) rfl, gm 50 (by decide +kernel) rfl, by decide +kernel⟩
theorem ykX6_end : Yk yX6_end cX6_end 1 (some .int) 0 := ⟨gm 344 (by decide +kernel) rfl, gm 47 (by decide +kernel) rfl, by decide +kernel⟩
theorem ykX3_keepNext : Yk yX3_keepNext cX3_keepNext 3 (some .int) 1 := ⟨gm 348 (by decide +kernel) rfl, gm 50 (by decide +kernel) rfl, by decide +kernel⟩
theorem ykX3_giveTurns : Yk yX3_giveTurns cX3_giveTurns 3 none 2 := ⟨gm 352 (by decide +kernel) rfl, gm 50 (by decide +kernel) rfl, by decide +kernel⟩
theorem ykX6_dropTry : Yk yX6_dropTry cX6_dropTry 2 (some .int) 1 := ⟨gm 357 (by decide +kernel) rfl, gm 47 (by decide +kernel) rfl, by decide +kernel⟩
theorem ykX3_holds : Yk yX3_holds cX3_holds 2 (some .boolean) 1 := ⟨gm 361 (by decide +kernel) rfl, gm 50 (by decide +kernel) rfl, by decide +kernel⟩
theorem ykX3_drop : Yk yX3_drop cX3_drop 2 none 1 := ⟨gm 365 (by decide +kernel) rfl, gm 50 (by decide +kernel) rfl, by decide +kernel⟩
theorem ykX3_moveUp : Yk yX3_moveUp cX3_moveUp 5 none 3 := ⟨gm 369 (by decide +kernel) rfl, gm 50 (by decide +kernel) rfl, by decide +kernel⟩
theorem ykX6_generalise : Yk yX6_generalise cX6_generalise 3 (some .int) 2 := ⟨gm 374 (by decide +kernel) rfl, gm 47 (by decide +kernel) rfl, by decide +kernel⟩
theorem ykX6_canGeneralise : Yk yX6_canGeneralise cX6_canGeneralise 3 (some .boolean) 2 := ⟨gm 378 (by decide +kernel) rfl, gm 47 (by decide +kernel) rfl, by decide +kernel⟩
theorem ykX3_haveSameVerbs : Yk yX3_haveSameVerbs cX3_haveSameVerbs 5 (some .boolean) 2 := ⟨gm 382 (by decide +kernel) rfl, gm 50 (by decide +kernel) rfl, by decide +kernel⟩
theorem ykX3_verbAt : Yk yX3_verbAt cX3_verbAt 3 (some .int) 2 := ⟨gm 386 (by decide +kernel) rfl, gm 50 (by decide +kernel) rfl, by decide +kernel⟩
theorem ykX3_look : Yk yX3_look cX3_look 5 (some .int) 3 := ⟨gm 390 (by decide +kernel) rfl, gm 50 (by decide +kernel) rfl, by decide +kernel⟩
theorem ykX6_makeLoop : Yk yX6_makeLoop cX6_makeLoop 11 (some .int) 5 := ⟨gm 395 (by decide +kernel) rfl, gm 47 (by decide +kernel) rfl, by decide +kernel⟩
theorem ykX3_numberAt : Yk yX3_numberAt cX3_numberAt 3 (some .int) 2 := ⟨gm 399 (by decide +kernel) rfl, gm 50 (by decide +kernel) rfl, by decide +kernel⟩
theorem ykX6_fold : Yk yX6_fold cX6_fold 3 (some .int) 1 := ⟨gm 404 (by decide +kernel) rfl, gm 47 (by decide +kernel) rfl, by decide +kernel⟩
theorem ykX6_leastPeriod : Yk yX6_leastPeriod cX6_leastPeriod 4 (some .int) 1 := ⟨gm 408 (by decide +kernel) rfl, gm 47 (by decide +kernel) rfl, by decide +kernel⟩
theorem ykX6_repeatsBy : Yk yX6_repeatsBy cX6_repeatsBy 6 (some .boolean) 2 := ⟨gm 412 (by decide +kernel) rfl, gm 47 (by decide +kernel) rfl, by decide +kernel⟩
theorem ykX6_riseAt : Yk yX6_riseAt cX6_riseAt 4 (some .int) 3 := ⟨gm 416 (by decide +kernel) rfl, gm 47 (by decide +kernel) rfl, by decide +kernel⟩
theorem ykX6_setTurns : Yk yX6_setTurns cX6_setTurns 4 (some .int) 2 := ⟨gm 420 (by decide +kernel) rfl, gm 47 (by decide +kernel) rfl, by decide +kernel⟩
theorem ykX6_isTurns : Yk yX6_isTurns cX6_isTurns 1 (some .boolean) 1 := ⟨gm 423 (by decide +kernel) rfl, gm 47 (by decide +kernel) rfl, by decide +kernel⟩
theorem ykX3_turnsOf : Yk yX3_turnsOf cX3_turnsOf 2 (some .int) 1 := ⟨gm 427 (by decide +kernel) rfl, gm 50 (by decide +kernel) rfl, by decide +kernel⟩
theorem ykX6_dropLoop : Yk yX6_dropLoop cX6_dropLoop 2 (some .int) 1 := ⟨gm 432 (by decide +kernel) rfl, gm 47 (by decide +kernel) rfl, by decide +kernel⟩
theorem ykX6_play : Yk yX6_play cX6_play 2 (some .int) 1 := ⟨gm 436 (by decide +kernel) rfl, gm 47 (by decide +kernel) rfl, by decide +kernel⟩
theorem ykX4_playLoop : Yk yX4_playLoop cX4_playLoop 4 (some .int) 3 := ⟨gm 440 (by decide +kernel) rfl, gm 48 (by decide +kernel) rfl, by decide +kernel⟩
theorem ykX1_doTurns : Yk yX1_doTurns cX1_doTurns 7 none 4 := ⟨gm 445 (by decide +kernel) rfl, gm 54 (by decide +kernel) rfl, by decide +kernel⟩
theorem ykX1_begin : Yk yX1_begin cX1_begin 1 none 0 := ⟨gm 449 (by decide +kernel) rfl, gm 54 (by decide +kernel) rfl, by decide +kernel⟩
theorem ykX1_doTurn : Yk yX1_doTurn cX1_doTurn 9 (some .boolean) 4 := ⟨gm 453 (by decide +kernel) rfl, gm 54 (by decide +kernel) rfl, by decide +kernel⟩
theorem ykX3_numberInTurn : Yk yX3_numberInTurn cX3_numberInTurn 4 (some .int) 3 := ⟨gm 459 (by decide +kernel) rfl, gm 50 (by decide +kernel) rfl, by decide +kernel⟩
theorem ykX3_strideAt : Yk yX3_strideAt cX3_strideAt 3 (some .int) 2 := ⟨gm 464 (by decide +kernel) rfl, gm 50 (by decide +kernel) rfl, by decide +kernel⟩
theorem ykX6_type : Yk yX6_type cX6_type 2 (some .int) 1 := ⟨gm 470 (by decide +kernel) rfl, gm 47 (by decide +kernel) rfl, by decide +kernel⟩
theorem ykX5_append : Yk yX5_append cX5_append 2 (some .boolean) 1 := ⟨gm 474 (by decide +kernel) rfl, gm 53 (by decide +kernel) rfl, by decide +kernel⟩
theorem ykX6_clearText : Yk yX6_clearText cX6_clearText 2 (some .int) 0 := ⟨gm 478 (by decide +kernel) rfl, gm 47 (by decide +kernel) rfl, by decide +kernel⟩
theorem ykX6_perform : Yk yX6_perform cX6_perform 4 (some .int) 0 := ⟨gm 482 (by decide +kernel) rfl, gm 47 (by decide +kernel) rfl, by decide +kernel⟩
theorem ykX5_read : Yk yX5_read cX5_read 2 (some .boolean) 0 := ⟨gm 486 (by decide +kernel) rfl, gm 53 (by decide +kernel) rfl, by decide +kernel⟩
theorem ykX3_clear : Yk yX3_clear cX3_clear 1 none 0 := ⟨gm 490 (by decide +kernel) rfl, gm 50 (by decide +kernel) rfl, by decide +kernel⟩
theorem ykX5_readItem : Yk yX5_readItem cX5_readItem 2 (some .boolean) 0 := ⟨gm 494 (by decide +kernel) rfl, gm 53 (by decide +kernel) rfl, by decide +kernel⟩
theorem ykX5_next : Yk yX5_next cX5_next 1 (some .char) 0 := ⟨gm 499 (by decide +kernel) rfl, gm 53 (by decide +kernel) rfl, by decide +kernel⟩
theorem ykX5_digitOf : Yk yX5_digitOf cX5_digitOf 1 (some .int) 1 := ⟨gm 502 (by decide +kernel) rfl, gm 53 (by decide +kernel) rfl, by decide +kernel⟩
theorem ykX5_readStep : Yk yX5_readStep cX5_readStep 7 (some .boolean) 1 := ⟨gm 506 (by decide +kernel) rfl, gm 53 (by decide +kernel) rfl, by decide +kernel⟩
theorem ykJ0_indexOf_0f7a4 : Yk yJ0_indexOf_0f7a4 cJ0_indexOf_0f7a4 2 (some .int) 1 := ⟨gm 511 (by decide +kernel) rfl, gm 57 (by decide +kernel) rfl, by decide +kernel⟩
theorem ykJ0_indexOf_7cf53 : Yk yJ0_indexOf_7cf53 cJ0_indexOf_7cf53 3 (some .int) 2 := ⟨gm 515 (by decide +kernel) rfl, gm 57 (by decide +kernel) rfl, by decide +kernel⟩
theorem ykJ0_isLatin1_aae02 : Yk yJ0_isLatin1_aae02 cJ0_isLatin1_aae02 1 (some .boolean) 0 := ⟨gm 519 (by decide +kernel) rfl, gm 57 (by decide +kernel) rfl, by decide +kernel⟩
theorem ykJ0_length_8abf5 : Yk yJ0_length_8abf5 cJ0_length_8abf5 1 (some .int) 0 := ⟨gm 525 (by decide +kernel) rfl, gm 57 (by decide +kernel) rfl, by decide +kernel⟩
theorem ykJ0_coder_7d493 : Yk yJ0_coder_7d493 cJ0_coder_7d493 1 (some .byte) 0 := ⟨gm 529 (by decide +kernel) rfl, gm 57 (by decide +kernel) rfl, by decide +kernel⟩
theorem ykJ1_indexOf_4cfef : Yk yJ1_indexOf_4cfef cJ1_indexOf_4cfef 4 (some .int) 4 := ⟨gm 532 (by decide +kernel) rfl, gm 58 (by decide +kernel) rfl, by decide +kernel⟩
theorem ykJ1_canEncode_9a6ad : Yk yJ1_canEncode_9a6ad cJ1_canEncode_9a6ad 1 (some .boolean) 1 := ⟨gm 535 (by decide +kernel) rfl, gm 58 (by decide +kernel) rfl, by decide +kernel⟩
theorem ykJ1_indexOfChar_4cfef : Yk yJ1_indexOfChar_4cfef cJ1_indexOfChar_4cfef 6 (some .int) 4 := ⟨gm 540 (by decide +kernel) rfl, gm 58 (by decide +kernel) rfl, by decide +kernel⟩
theorem ykJ2_indexOf_4cfef : Yk yJ2_indexOf_4cfef cJ2_indexOf_4cfef 4 (some .int) 4 := ⟨gm 543 (by decide +kernel) rfl, gm 59 (by decide +kernel) rfl, by decide +kernel⟩
theorem ykJ2_indexOfChar_4cfef : Yk yJ2_indexOfChar_4cfef cJ2_indexOfChar_4cfef 4 (some .int) 4 := ⟨gm 549 (by decide +kernel) rfl, gm 59 (by decide +kernel) rfl, by decide +kernel⟩
theorem ykJ2_checkBoundsBeginEnd_d044e : Yk yJ2_checkBoundsBeginEnd_d044e cJ2_checkBoundsBeginEnd_d044e 3 none 3 := ⟨gm 552 (by decide +kernel) rfl, gm 59 (by decide +kernel) rfl, by decide +kernel⟩
theorem ykJ2_length_9d52b : Yk yJ2_length_9d52b cJ2_length_9d52b 1 (some .int) 1 := ⟨gm 555 (by decide +kernel) rfl, gm 59 (by decide +kernel) rfl, by decide +kernel⟩
theorem ykJ0_checkBoundsBeginEnd_23922 : Yk yJ0_checkBoundsBeginEnd_23922 cJ0_checkBoundsBeginEnd_23922 3 none 3 := ⟨gm 558 (by decide +kernel) rfl, gm 57 (by decide +kernel) rfl, by decide +kernel⟩
theorem ykJ3_checkFromToIndex_8c36e : Yk yJ3_checkFromToIndex_8c36e cJ3_checkFromToIndex_8c36e 4 (some .int) 4 := ⟨gm 563 (by decide +kernel) rfl, gm 60 (by decide +kernel) rfl, by decide +kernel⟩
theorem ykJ2_indexOfCharUnsafe_4cfef : Yk yJ2_indexOfCharUnsafe_4cfef cJ2_indexOfCharUnsafe_4cfef 5 (some .int) 4 := ⟨gm 566 (by decide +kernel) rfl, gm 59 (by decide +kernel) rfl, by decide +kernel⟩
theorem ykJ2_getChar_3b067 : Yk yJ2_getChar_3b067 cJ2_getChar_3b067 2 (some .char) 2 := ⟨gm 569 (by decide +kernel) rfl, gm 59 (by decide +kernel) rfl, by decide +kernel⟩
theorem ykJ2_indexOfSupplementary_4cfef : Yk yJ2_indexOfSupplementary_4cfef cJ2_indexOfSupplementary_4cfef 7 (some .int) 4 := ⟨gm 578 (by decide +kernel) rfl, gm 59 (by decide +kernel) rfl, by decide +kernel⟩
theorem ykJ11_isValidCodePoint_9a6ad : Yk yJ11_isValidCodePoint_9a6ad cJ11_isValidCodePoint_9a6ad 2 (some .boolean) 1 := ⟨gm 581 (by decide +kernel) rfl, gm 61 (by decide +kernel) rfl, by decide +kernel⟩
theorem ykJ11_highSurrogate_5068e : Yk yJ11_highSurrogate_5068e cJ11_highSurrogate_5068e 1 (some .char) 1 := ⟨gm 584 (by decide +kernel) rfl, gm 61 (by decide +kernel) rfl, by decide +kernel⟩
theorem ykJ11_lowSurrogate_5068e : Yk yJ11_lowSurrogate_5068e cJ11_lowSurrogate_5068e 1 (some .char) 1 := ⟨gm 588 (by decide +kernel) rfl, gm 61 (by decide +kernel) rfl, by decide +kernel⟩
theorem ykX5_readNumber : Yk yX5_readNumber cX5_readNumber 5 (some .int) 2 := ⟨gm 594 (by decide +kernel) rfl, gm 53 (by decide +kernel) rfl, by decide +kernel⟩
theorem ykX5_readBody : Yk yX5_readBody cX5_readBody 2 (some .boolean) 0 := ⟨gm 599 (by decide +kernel) rfl, gm 53 (by decide +kernel) rfl, by decide +kernel⟩
theorem ykX5_take : Yk yX5_take cX5_take 2 (some .boolean) 1 := ⟨gm 603 (by decide +kernel) rfl, gm 53 (by decide +kernel) rfl, by decide +kernel⟩
theorem ykX6_undo : Yk yX6_undo cX6_undo 1 (some .int) 0 := ⟨gm 609 (by decide +kernel) rfl, gm 47 (by decide +kernel) rfl, by decide +kernel⟩
theorem ykX0_pop : Yk yX0_pop cX0_pop 3 (some .boolean) 1 := ⟨gm 613 (by decide +kernel) rfl, gm 52 (by decide +kernel) rfl, by decide +kernel⟩
theorem ykX6_keep : Yk yX6_keep cX6_keep 1 (some .int) 0 := ⟨gm 617 (by decide +kernel) rfl, gm 47 (by decide +kernel) rfl, by decide +kernel⟩
theorem ykX6_restore : Yk yX6_restore cX6_restore 1 (some .int) 0 := ⟨gm 622 (by decide +kernel) rfl, gm 47 (by decide +kernel) rfl, by decide +kernel⟩
theorem ykX6_cell : Yk yX6_cell cX6_cell 2 (some .int) 1 := ⟨gm 626 (by decide +kernel) rfl, gm 47 (by decide +kernel) rfl, by decide +kernel⟩
theorem ykX6_isCell : Yk yX6_isCell cX6_isCell 1 (some .boolean) 1 := ⟨gm 629 (by decide +kernel) rfl, gm 47 (by decide +kernel) rfl, by decide +kernel⟩
theorem ykX6_ofTry : Yk yX6_ofTry cX6_ofTry 5 (some .int) 3 := ⟨gm 634 (by decide +kernel) rfl, gm 47 (by decide +kernel) rfl, by decide +kernel⟩
theorem ykX3_hasStep : Yk yX3_hasStep cX3_hasStep 3 (some .boolean) 2 := ⟨gm 638 (by decide +kernel) rfl, gm 50 (by decide +kernel) rfl, by decide +kernel⟩
theorem ykX6_ofLoop : Yk yX6_ofLoop cX6_ofLoop 5 (some .int) 3 := ⟨gm 642 (by decide +kernel) rfl, gm 47 (by decide +kernel) rfl, by decide +kernel⟩
theorem ykX6_length : Yk yX6_length cX6_length 3 (some .int) 2 := ⟨gm 648 (by decide +kernel) rfl, gm 47 (by decide +kernel) rfl, by decide +kernel⟩
theorem ykX6_total : Yk yX6_total cX6_total 2 (some .int) 1 := ⟨gm 652 (by decide +kernel) rfl, gm 47 (by decide +kernel) rfl, by decide +kernel⟩
theorem ykX2_sum : Yk yX2_sum cX2_sum 6 (some .int) 0 := ⟨gm 656 (by decide +kernel) rfl, gm 49 (by decide +kernel) rfl, by decide +kernel⟩
theorem ykX6_countVerbRows : Yk yX6_countVerbRows cX6_countVerbRows 5 (some .int) 0 := ⟨gm 660 (by decide +kernel) rfl, gm 47 (by decide +kernel) rfl, by decide +kernel⟩
theorem ykX6_alike : Yk yX6_alike cX6_alike 4 (some .int) 3 := ⟨gm 664 (by decide +kernel) rfl, gm 47 (by decide +kernel) rfl, by decide +kernel⟩
theorem ykX6_countCommon : Yk yX6_countCommon cX6_countCommon 10 (some .int) 3 := ⟨gm 668 (by decide +kernel) rfl, gm 47 (by decide +kernel) rfl, by decide +kernel⟩
theorem ykX6_areAlike : Yk yX6_areAlike cX6_areAlike 7 (some .boolean) 5 := ⟨gm 672 (by decide +kernel) rfl, gm 47 (by decide +kernel) rfl, by decide +kernel⟩
theorem ykX6_bestPair : Yk yX6_bestPair cX6_bestPair 8 (some .int) 1 := ⟨gm 677 (by decide +kernel) rfl, gm 47 (by decide +kernel) rfl, by decide +kernel⟩
theorem ykX6_countZeroStrides : Yk yX6_countZeroStrides cX6_countZeroStrides 6 (some .int) 2 := ⟨gm 681 (by decide +kernel) rfl, gm 47 (by decide +kernel) rfl, by decide +kernel⟩
theorem ykX6_fits : Yk yX6_fits cX6_fits 7 (some .int) 2 := ⟨gm 685 (by decide +kernel) rfl, gm 47 (by decide +kernel) rfl, by decide +kernel⟩
theorem ykX6_isTurn : Yk yX6_isTurn cX6_isTurn 7 (some .boolean) 4 := ⟨gm 689 (by decide +kernel) rfl, gm 47 (by decide +kernel) rfl, by decide +kernel⟩
theorem ykX6_mostTurns : Yk yX6_mostTurns cX6_mostTurns 6 (some .int) 1 := ⟨gm 693 (by decide +kernel) rfl, gm 47 (by decide +kernel) rfl, by decide +kernel⟩
theorem ykX6_turnsInRange : Yk yX6_turnsInRange cX6_turnsInRange 5 (some .int) 2 := ⟨gm 697 (by decide +kernel) rfl, gm 47 (by decide +kernel) rfl, by decide +kernel⟩
theorem ykX6_ifPlayed : Yk yX6_ifPlayed cX6_ifPlayed 4 (some .int) 3 := ⟨gm 701 (by decide +kernel) rfl, gm 47 (by decide +kernel) rfl, by decide +kernel⟩
theorem ykX6_fewestTurns : Yk yX6_fewestTurns cX6_fewestTurns 6 (some .int) 3 := ⟨gm 707 (by decide +kernel) rfl, gm 47 (by decide +kernel) rfl, by decide +kernel⟩
theorem ykX7_init : Yk yX7_init cX7_init 1 none 0 := ⟨gm 714 (by decide +kernel) rfl, gm 55 (by decide +kernel) rfl, by decide +kernel⟩
theorem ykX7_undo : Yk yX7_undo cX7_undo 1 (some .int) 0 := ⟨gm 762 (by decide +kernel) rfl, gm 55 (by decide +kernel) rfl, by decide +kernel⟩
theorem ykX7_copyState : Yk yX7_copyState cX7_copyState 5 none 4 := ⟨gm 765 (by decide +kernel) rfl, gm 55 (by decide +kernel) rfl, by decide +kernel⟩
theorem ykX7_keep : Yk yX7_keep cX7_keep 1 (some .int) 0 := ⟨gm 769 (by decide +kernel) rfl, gm 55 (by decide +kernel) rfl, by decide +kernel⟩
theorem ykX7_restore : Yk yX7_restore cX7_restore 1 (some .int) 0 := ⟨gm 773 (by decide +kernel) rfl, gm 55 (by decide +kernel) rfl, by decide +kernel⟩
theorem ykX7_save : Yk yX7_save cX7_save 2 none 0 := ⟨gm 777 (by decide +kernel) rfl, gm 55 (by decide +kernel) rfl, by decide +kernel⟩
theorem ykX7_step : Yk yX7_step cX7_step 4 (some .int) 2 := ⟨gm 781 (by decide +kernel) rfl, gm 55 (by decide +kernel) rfl, by decide +kernel⟩
theorem ykX7_in : Yk yX7_in cX7_in 3 (some .boolean) 3 := ⟨gm 784 (by decide +kernel) rfl, gm 55 (by decide +kernel) rfl, by decide +kernel⟩
theorem ykX7_greatest : Yk yX7_greatest cX7_greatest 1 (some .int) 1 := ⟨gm 787 (by decide +kernel) rfl, gm 55 (by decide +kernel) rfl, by decide +kernel⟩
theorem ykX7_sizeOf : Yk yX7_sizeOf cX7_sizeOf 2 (some .int) 1 := ⟨gm 791 (by decide +kernel) rfl, gm 55 (by decide +kernel) rfl, by decide +kernel⟩
theorem ykX7_doStep : Yk yX7_doStep cX7_doStep 5 (some .boolean) 2 := ⟨gm 795 (by decide +kernel) rfl, gm 55 (by decide +kernel) rfl, by decide +kernel⟩
theorem ykX7_record : Yk yX7_record cX7_record 2 (some .int) 0 := ⟨gm 799 (by decide +kernel) rfl, gm 55 (by decide +kernel) rfl, by decide +kernel⟩
theorem ykX7_end : Yk yX7_end cX7_end 1 (some .int) 0 := ⟨gm 803 (by decide +kernel) rfl, gm 55 (by decide +kernel) rfl, by decide +kernel⟩
theorem ykX7_dropTry : Yk yX7_dropTry cX7_dropTry 3 (some .int) 1 := ⟨gm 807 (by decide +kernel) rfl, gm 55 (by decide +kernel) rfl, by decide +kernel⟩
theorem ykX7_isTry : Yk yX7_isTry cX7_isTry 2 (some .boolean) 1 := ⟨gm 811 (by decide +kernel) rfl, gm 55 (by decide +kernel) rfl, by decide +kernel⟩
theorem ykX7_generalise : Yk yX7_generalise cX7_generalise 5 (some .int) 2 := ⟨gm 815 (by decide +kernel) rfl, gm 55 (by decide +kernel) rfl, by decide +kernel⟩
theorem ykX7_areLike : Yk yX7_areLike cX7_areLike 5 (some .boolean) 2 := ⟨gm 819 (by decide +kernel) rfl, gm 55 (by decide +kernel) rfl, by decide +kernel⟩
theorem ykX7_verbOf : Yk yX7_verbOf cX7_verbOf 3 (some .int) 2 := ⟨gm 823 (by decide +kernel) rfl, gm 55 (by decide +kernel) rfl, by decide +kernel⟩
theorem ykX7_newLoop : Yk yX7_newLoop cX7_newLoop 6 (some .int) 3 := ⟨gm 827 (by decide +kernel) rfl, gm 55 (by decide +kernel) rfl, by decide +kernel⟩
theorem ykX7_numberOf : Yk yX7_numberOf cX7_numberOf 3 (some .int) 2 := ⟨gm 831 (by decide +kernel) rfl, gm 55 (by decide +kernel) rfl, by decide +kernel⟩
theorem ykX7_stride : Yk yX7_stride cX7_stride 4 none 3 := ⟨gm 835 (by decide +kernel) rfl, gm 55 (by decide +kernel) rfl, by decide +kernel⟩
theorem ykX7_fold : Yk yX7_fold cX7_fold 5 (some .int) 1 := ⟨gm 839 (by decide +kernel) rfl, gm 55 (by decide +kernel) rfl, by decide +kernel⟩
theorem ykX7_canFold : Yk yX7_canFold cX7_canFold 7 (some .boolean) 2 := ⟨gm 843 (by decide +kernel) rfl, gm 55 (by decide +kernel) rfl, by decide +kernel⟩
theorem ykX7_setTurns : Yk yX7_setTurns cX7_setTurns 4 (some .int) 2 := ⟨gm 847 (by decide +kernel) rfl, gm 55 (by decide +kernel) rfl, by decide +kernel⟩
theorem ykX7_isLoop : Yk yX7_isLoop cX7_isLoop 2 (some .boolean) 1 := ⟨gm 851 (by decide +kernel) rfl, gm 55 (by decide +kernel) rfl, by decide +kernel⟩
theorem ykX7_dropLoop : Yk yX7_dropLoop cX7_dropLoop 3 (some .int) 1 := ⟨gm 855 (by decide +kernel) rfl, gm 55 (by decide +kernel) rfl, by decide +kernel⟩
theorem ykX7_play : Yk yX7_play cX7_play 3 (some .int) 1 := ⟨gm 859 (by decide +kernel) rfl, gm 55 (by decide +kernel) rfl, by decide +kernel⟩
theorem ykX7_playLoop : Yk yX7_playLoop cX7_playLoop 3 none 2 := ⟨gm 863 (by decide +kernel) rfl, gm 55 (by decide +kernel) rfl, by decide +kernel⟩
theorem ykX7_takeBody : Yk yX7_takeBody cX7_takeBody 4 none 1 := ⟨gm 867 (by decide +kernel) rfl, gm 55 (by decide +kernel) rfl, by decide +kernel⟩
theorem ykX7_playBody : Yk yX7_playBody cX7_playBody 4 none 1 := ⟨gm 871 (by decide +kernel) rfl, gm 55 (by decide +kernel) rfl, by decide +kernel⟩
theorem ykX7_turn : Yk yX7_turn cX7_turn 5 (some .int) 1 := ⟨gm 875 (by decide +kernel) rfl, gm 55 (by decide +kernel) rfl, by decide +kernel⟩
theorem ykX7_type : Yk yX7_type cX7_type 2 (some .int) 1 := ⟨gm 879 (by decide +kernel) rfl, gm 55 (by decide +kernel) rfl, by decide +kernel⟩
theorem ykX7_clearText : Yk yX7_clearText cX7_clearText 2 (some .int) 0 := ⟨gm 883 (by decide +kernel) rfl, gm 55 (by decide +kernel) rfl, by decide +kernel⟩
theorem ykX7_perform : Yk yX7_perform cX7_perform 2 (some .int) 0 := ⟨gm 887 (by decide +kernel) rfl, gm 55 (by decide +kernel) rfl, by decide +kernel⟩
theorem ykX7_readText : Yk yX7_readText cX7_readText 4 (some .boolean) 1 := ⟨gm 891 (by decide +kernel) rfl, gm 55 (by decide +kernel) rfl, by decide +kernel⟩
theorem ykX7_readItem : Yk yX7_readItem cX7_readItem 2 (some .int) 0 := ⟨gm 895 (by decide +kernel) rfl, gm 55 (by decide +kernel) rfl, by decide +kernel⟩
theorem ykX7_sees : Yk yX7_sees cX7_sees 3 (some .boolean) 2 := ⟨gm 899 (by decide +kernel) rfl, gm 55 (by decide +kernel) rfl, by decide +kernel⟩
theorem ykX7_readStep : Yk yX7_readStep cX7_readStep 6 (some .boolean) 1 := ⟨gm 903 (by decide +kernel) rfl, gm 55 (by decide +kernel) rfl, by decide +kernel⟩
theorem ykX7_verbBy : Yk yX7_verbBy cX7_verbBy 1 (some .int) 1 := ⟨gm 906 (by decide +kernel) rfl, gm 55 (by decide +kernel) rfl, by decide +kernel⟩
theorem ykX7_number : Yk yX7_number cX7_number 4 (some .int) 2 := ⟨gm 910 (by decide +kernel) rfl, gm 55 (by decide +kernel) rfl, by decide +kernel⟩
theorem ykX7_takes : Yk yX7_takes cX7_takes 3 (some .boolean) 1 := ⟨gm 914 (by decide +kernel) rfl, gm 55 (by decide +kernel) rfl, by decide +kernel⟩
theorem ykX7_cell : Yk yX7_cell cX7_cell 2 (some .int) 1 := ⟨gm 918 (by decide +kernel) rfl, gm 55 (by decide +kernel) rfl, by decide +kernel⟩
theorem ykX7_ofTry : Yk yX7_ofTry cX7_ofTry 5 (some .int) 3 := ⟨gm 922 (by decide +kernel) rfl, gm 55 (by decide +kernel) rfl, by decide +kernel⟩
theorem ykX7_ofLoop : Yk yX7_ofLoop cX7_ofLoop 5 (some .int) 3 := ⟨gm 926 (by decide +kernel) rfl, gm 55 (by decide +kernel) rfl, by decide +kernel⟩
theorem ykX7_length : Yk yX7_length cX7_length 4 (some .int) 2 := ⟨gm 930 (by decide +kernel) rfl, gm 55 (by decide +kernel) rfl, by decide +kernel⟩
theorem ykX7_total : Yk yX7_total cX7_total 2 (some .int) 1 := ⟨gm 934 (by decide +kernel) rfl, gm 55 (by decide +kernel) rfl, by decide +kernel⟩
theorem ykX7_sum : Yk yX7_sum cX7_sum 3 (some .int) 0 := ⟨gm 938 (by decide +kernel) rfl, gm 55 (by decide +kernel) rfl, by decide +kernel⟩
theorem ykX7_rowsOfVerbs : Yk yX7_rowsOfVerbs cX7_rowsOfVerbs 5 (some .int) 0 := ⟨gm 942 (by decide +kernel) rfl, gm 55 (by decide +kernel) rfl, by decide +kernel⟩
theorem ykX7_alike : Yk yX7_alike cX7_alike 10 (some .int) 3 := ⟨gm 946 (by decide +kernel) rfl, gm 55 (by decide +kernel) rfl, by decide +kernel⟩
theorem ykX7_bestPair : Yk yX7_bestPair cX7_bestPair 7 (some .int) 1 := ⟨gm 950 (by decide +kernel) rfl, gm 55 (by decide +kernel) rfl, by decide +kernel⟩
theorem ykX7_likeNumbers : Yk yX7_likeNumbers cX7_likeNumbers 5 (some .int) 2 := ⟨gm 954 (by decide +kernel) rfl, gm 55 (by decide +kernel) rfl, by decide +kernel⟩
theorem ykX7_fits : Yk yX7_fits cX7_fits 6 (some .int) 2 := ⟨gm 958 (by decide +kernel) rfl, gm 55 (by decide +kernel) rfl, by decide +kernel⟩
theorem ykX7_mostTurns : Yk yX7_mostTurns cX7_mostTurns 6 (some .int) 1 := ⟨gm 962 (by decide +kernel) rfl, gm 55 (by decide +kernel) rfl, by decide +kernel⟩
theorem ykX7_ifPlayed : Yk yX7_ifPlayed cX7_ifPlayed 7 (some .int) 3 := ⟨gm 966 (by decide +kernel) rfl, gm 55 (by decide +kernel) rfl, by decide +kernel⟩
theorem ykX7_tests : Yk yX7_tests cX7_tests 4 (some .int) 1 := ⟨gm 970 (by decide +kernel) rfl, gm 55 (by decide +kernel) rfl, by decide +kernel⟩
theorem ykX7_fewestTurns : Yk yX7_fewestTurns cX7_fewestTurns 7 (some .int) 3 := ⟨gm 974 (by decide +kernel) rfl, gm 55 (by decide +kernel) rfl, by decide +kernel⟩
theorem kL_9 : LkI R_law 9 yX6_init := ⟨Or.inl (gm 64 (by decide +kernel) rfl), gm 65 (by decide +kernel) rfl, rfl⟩
theorem kX6_11 : LkI RX6 11 yX4_init := ⟨Or.inr ⟨"TryLoops", gn 72 (by decide +kernel) rfl⟩, gm 73 (by decide +kernel) rfl, rfl⟩
theorem kX4_11 : LkI RX4 11 yX2_init := ⟨Or.inr ⟨"TryLoops", gn 78 (by decide +kernel) rfl⟩, gm 79 (by decide +kernel) rfl, rfl⟩
theorem fX2_9 : FL RX2 9 2 0 (.array .int) true := ⟨RX2, TX2, tyX2, 2, ckX2, by decide, rfl, rfl, rfl, Or.inl (gm 82 (by decide +kernel) rfl)⟩
theorem fX2_15 : FL RX2 15 2 1 (.int) false := ⟨RX2, TX2, tyX2, 2, ckX2, by decide, rfl, rfl, rfl, Or.inl (gm 83 (by decide +kernel) rfl)⟩
theorem fX6_191 : FL RX6 191 2 1 (.int) false := ⟨RX2, TX2, tyX2, 2, ckX2, by decide, rfl, rfl, rfl, Or.inr ⟨"TryLoops", gn 84 (by decide +kernel) rfl⟩⟩
theorem kX4_20 : LkI RX4 20 yX3_init := ⟨Or.inl (gm 93 (by decide +kernel) rfl), gm 94 (by decide +kernel) rfl, rfl⟩
theorem kX3_7 : LkS RX3 7 yJ9_max_7cf53 := ⟨Or.inl (gm 97 (by decide +kernel) rfl), gm 98 (by decide +kernel) rfl⟩
theorem fX3_13 : FL RX3 13 3 0 (.int) true := ⟨RX3, TX3, tyX3, 7, ckX3, by decide, rfl, rfl, rfl, Or.inl (gm 100 (by decide +kernel) rfl)⟩
theorem fX3_19 : FL RX3 19 3 1 (.array .int) true := ⟨RX3, TX3, tyX3, 7, ckX3, by decide, rfl, rfl, rfl, Or.inl (gm 101 (by decide +kernel) rfl)⟩
theorem fX3_23 : FL RX3 23 3 2 (.array .int) true := ⟨RX3, TX3, tyX3, 7, ckX3, by decide, rfl, rfl, rfl, Or.inl (gm 102 (by decide +kernel) rfl)⟩
theorem fX3_26 : FL RX3 26 3 3 (.array .int) true := ⟨RX3, TX3, tyX3, 7, ckX3, by decide, rfl, rfl, rfl, Or.inl (gm 103 (by decide +kernel) rfl)⟩
theorem fX3_29 : FL RX3 29 3 4 (.array .int) true := ⟨RX3, TX3, tyX3, 7, ckX3, by decide, rfl, rfl, rfl, Or.inl (gm 104 (by decide +kernel) rfl)⟩
theorem fX3_32 : FL RX3 32 3 5 (.array .int) true := ⟨RX3, TX3, tyX3, 7, ckX3, by decide, rfl, rfl, rfl, Or.inl (gm 105 (by decide +kernel) rfl)⟩
theorem fX3_35 : FL RX3 35 3 6 (.int) false := ⟨RX3, TX3, tyX3, 7, ckX3, by decide, rfl, rfl, rfl, Or.inl (gm 106 (by decide +kernel) rfl)⟩
theorem fX4_34 : FL RX4 34 3 6 (.int) false := ⟨RX3, TX3, tyX3, 7, ckX3, by decide, rfl, rfl, rfl, Or.inr ⟨"TryLoops", gn 107 (by decide +kernel) rfl⟩⟩
theorem fX6_78 : FL RX6 78 3 6 (.int) false := ⟨RX3, TX3, tyX3, 7, ckX3, by decide, rfl, rfl, rfl, Or.inr ⟨"TryLoops", gn 108 (by decide +kernel) rfl⟩⟩
theorem fX5_78 : FL RX5 78 3 6 (.int) false := ⟨RX3, TX3, tyX3, 7, ckX3, by decide, rfl, rfl, rfl, Or.inr ⟨"TryLoops", gn 109 (by decide +kernel) rfl⟩⟩
theorem fX4_12 : FL RX4 12 4 0 (.object "TryLoops$Row") true := ⟨RX4, TX4, tyX4, 8, ckX4, by decide, rfl, rfl, rfl, Or.inl (gm 125 (by decide +kernel) rfl)⟩
theorem fX6_88 : FL RX6 88 4 0 (.object "TryLoops$Row") true := ⟨RX4, TX4, tyX4, 8, ckX4, by decide, rfl, rfl, rfl, Or.inr ⟨"TryLoops", gn 126 (by decide +kernel) rfl⟩⟩
theorem fX4_23 : FL RX4 23 4 1 (.object "TryLoops$Shelf") true := ⟨RX4, TX4, tyX4, 8, ckX4, by decide, rfl, rfl, rfl, Or.inl (gm 127 (by decide +kernel) rfl)⟩
theorem fX6_74 : FL RX6 74 4 1 (.object "TryLoops$Shelf") true := ⟨RX4, TX4, tyX4, 8, ckX4, by decide, rfl, rfl, rfl, Or.inr ⟨"TryLoops", gn 128 (by decide +kernel) rfl⟩⟩
theorem fX4_27 : FL RX4 27 4 2 (.object "TryLoops$Shelf") true := ⟨RX4, TX4, tyX4, 8, ckX4, by decide, rfl, rfl, rfl, Or.inl (gm 129 (by decide +kernel) rfl)⟩
theorem fX6_115 : FL RX6 115 4 2 (.object "TryLoops$Shelf") true := ⟨RX4, TX4, tyX4, 8, ckX4, by decide, rfl, rfl, rfl, Or.inr ⟨"TryLoops", gn 130 (by decide +kernel) rfl⟩⟩
theorem fX6_59 : FL RX6 59 4 3 (.boolean) false := ⟨RX4, TX4, tyX4, 8, ckX4, by decide, rfl, rfl, rfl, Or.inr ⟨"TryLoops", gn 131 (by decide +kernel) rfl⟩⟩
theorem fX4_76 : FL RX4 76 4 3 (.boolean) false := ⟨RX4, TX4, tyX4, 8, ckX4, by decide, rfl, rfl, rfl, Or.inl (gm 132 (by decide +kernel) rfl)⟩
theorem fX4_45 : FL RX4 45 4 4 (.int) false := ⟨RX4, TX4, tyX4, 8, ckX4, by decide, rfl, rfl, rfl, Or.inl (gm 133 (by decide +kernel) rfl)⟩
theorem fX6_197 : FL RX6 197 4 4 (.int) false := ⟨RX4, TX4, tyX4, 8, ckX4, by decide, rfl, rfl, rfl, Or.inr ⟨"TryLoops", gn 134 (by decide +kernel) rfl⟩⟩
theorem fX4_48 : FL RX4 48 4 5 (.int) false := ⟨RX4, TX4, tyX4, 8, ckX4, by decide, rfl, rfl, rfl, Or.inl (gm 135 (by decide +kernel) rfl)⟩
theorem fX6_200 : FL RX6 200 4 5 (.int) false := ⟨RX4, TX4, tyX4, 8, ckX4, by decide, rfl, rfl, rfl, Or.inr ⟨"TryLoops", gn 136 (by decide +kernel) rfl⟩⟩
theorem fX4_66 : FL RX4 66 4 6 (.int) false := ⟨RX4, TX4, tyX4, 8, ckX4, by decide, rfl, rfl, rfl, Or.inl (gm 137 (by decide +kernel) rfl)⟩
theorem fX6_203 : FL RX6 203 4 6 (.int) false := ⟨RX4, TX4, tyX4, 8, ckX4, by decide, rfl, rfl, rfl, Or.inr ⟨"TryLoops", gn 138 (by decide +kernel) rfl⟩⟩
theorem fX4_30 : FL RX4 30 4 7 (.int) false := ⟨RX4, TX4, tyX4, 8, ckX4, by decide, rfl, rfl, rfl, Or.inl (gm 139 (by decide +kernel) rfl)⟩
theorem fX6_206 : FL RX6 206 4 7 (.int) false := ⟨RX4, TX4, tyX4, 8, ckX4, by decide, rfl, rfl, rfl, Or.inr ⟨"TryLoops", gn 140 (by decide +kernel) rfl⟩⟩
theorem kX6_18 : LkI RX6 18 yX0_init := ⟨Or.inl (gm 160 (by decide +kernel) rfl), gm 161 (by decide +kernel) rfl, rfl⟩
theorem kX0_17 : LkI RX0 17 yX4_init := ⟨Or.inr ⟨"TryLoops", gn 166 (by decide +kernel) rfl⟩, gm 73 (by decide +kernel) rfl, rfl⟩
theorem fX0_11 : FL RX0 11 0 0 (.array (.object "TryLoops$State")) true := ⟨RX0, TX0, tyX0, 2, ckX0, by decide, rfl, rfl, rfl, Or.inl (gm 167 (by decide +kernel) rfl)⟩
theorem fX0_18 : FL RX0 18 0 1 (.int) false := ⟨RX0, TX0, tyX0, 2, ckX0, by decide, rfl, rfl, rfl, Or.inl (gm 168 (by decide +kernel) rfl)⟩
theorem fX6_168 : FL RX6 168 0 1 (.int) false := ⟨RX0, TX0, tyX0, 2, ckX0, by decide, rfl, rfl, rfl, Or.inr ⟨"TryLoops", gn 169 (by decide +kernel) rfl⟩⟩
theorem kX6_28 : LkI RX6 28 yX5_init := ⟨Or.inr ⟨"TryLoops", gn 177 (by decide +kernel) rfl⟩, gm 178 (by decide +kernel) rfl, rfl⟩
theorem kX5_17 : LkI RX5 17 yX3_init := ⟨Or.inl (gm 182 (by decide +kernel) rfl), gm 94 (by decide +kernel) rfl, rfl⟩
theorem fX5_9 : FL RX5 9 5 0 (.array .char) true := ⟨RX5, TX5, tyX5, 4, ckX5, by decide, rfl, rfl, rfl, Or.inl (gm 183 (by decide +kernel) rfl)⟩
theorem fX5_24 : FL RX5 24 5 1 (.int) false := ⟨RX5, TX5, tyX5, 4, ckX5, by decide, rfl, rfl, rfl, Or.inl (gm 184 (by decide +kernel) rfl)⟩
theorem fX6_145 : FL RX6 145 5 1 (.int) false := ⟨RX5, TX5, tyX5, 4, ckX5, by decide, rfl, rfl, rfl, Or.inr ⟨"TryLoops", gn 185 (by decide +kernel) rfl⟩⟩
theorem fX5_28 : FL RX5 28 5 2 (.int) false := ⟨RX5, TX5, tyX5, 4, ckX5, by decide, rfl, rfl, rfl, Or.inl (gm 186 (by decide +kernel) rfl)⟩
theorem fX6_151 : FL RX6 151 5 2 (.int) false := ⟨RX5, TX5, tyX5, 4, ckX5, by decide, rfl, rfl, rfl, Or.inr ⟨"TryLoops", gn 187 (by decide +kernel) rfl⟩⟩
theorem fX5_20 : FL RX5 20 5 3 (.object "TryLoops$Shelf") true := ⟨RX5, TX5, tyX5, 4, ckX5, by decide, rfl, rfl, rfl, Or.inl (gm 188 (by decide +kernel) rfl)⟩
theorem fX6_154 : FL RX6 154 5 3 (.object "TryLoops$Shelf") true := ⟨RX5, TX5, tyX5, 4, ckX5, by decide, rfl, rfl, rfl, Or.inr ⟨"TryLoops", gn 189 (by decide +kernel) rfl⟩⟩
theorem kX6_35 : LkI RX6 35 yX1_init := ⟨Or.inr ⟨"TryLoops", gn 202 (by decide +kernel) rfl⟩, gm 203 (by decide +kernel) rfl, rfl⟩
theorem fX1_9 : FL RX1 9 1 0 (.int) false := ⟨RX1, TX1, tyX1, 3, ckX1, by decide, rfl, rfl, rfl, Or.inl (gm 206 (by decide +kernel) rfl)⟩
theorem fX4_60 : FL RX4 60 1 0 (.int) false := ⟨RX1, TX1, tyX1, 3, ckX1, by decide, rfl, rfl, rfl, Or.inr ⟨"TryLoops", gn 207 (by decide +kernel) rfl⟩⟩
theorem fX6_233 : FL RX6 233 1 0 (.int) false := ⟨RX1, TX1, tyX1, 3, ckX1, by decide, rfl, rfl, rfl, Or.inr ⟨"TryLoops", gn 208 (by decide +kernel) rfl⟩⟩
theorem fX1_15 : FL RX1 15 1 1 (.int) false := ⟨RX1, TX1, tyX1, 3, ckX1, by decide, rfl, rfl, rfl, Or.inl (gm 209 (by decide +kernel) rfl)⟩
theorem fX6_239 : FL RX6 239 1 1 (.int) false := ⟨RX1, TX1, tyX1, 3, ckX1, by decide, rfl, rfl, rfl, Or.inr ⟨"TryLoops", gn 210 (by decide +kernel) rfl⟩⟩
theorem fX1_18 : FL RX1 18 1 2 (.int) false := ⟨RX1, TX1, tyX1, 3, ckX1, by decide, rfl, rfl, rfl, Or.inl (gm 211 (by decide +kernel) rfl)⟩
theorem fX4_63 : FL RX4 63 1 2 (.int) false := ⟨RX1, TX1, tyX1, 3, ckX1, by decide, rfl, rfl, rfl, Or.inr ⟨"TryLoops", gn 212 (by decide +kernel) rfl⟩⟩
theorem fX6_236 : FL RX6 236 1 2 (.int) false := ⟨RX1, TX1, tyX1, 3, ckX1, by decide, rfl, rfl, rfl, Or.inr ⟨"TryLoops", gn 213 (by decide +kernel) rfl⟩⟩
theorem kX6_42 : LkI RX6 42 yX2_init := ⟨Or.inr ⟨"TryLoops", gn 222 (by decide +kernel) rfl⟩, gm 79 (by decide +kernel) rfl, rfl⟩
theorem fX6_12 : FL RX6 12 6 0 (.object "TryLoops$State") true := ⟨RX6, TX6, tyX6, 8, ckX6, by decide, rfl, rfl, rfl, Or.inl (gm 223 (by decide +kernel) rfl)⟩
theorem fX6_19 : FL RX6 19 6 1 (.object "TryLoops$History") true := ⟨RX6, TX6, tyX6, 8, ckX6, by decide, rfl, rfl, rfl, Or.inl (gm 224 (by decide +kernel) rfl)⟩
theorem fX6_23 : FL RX6 23 6 2 (.object "TryLoops$State") true := ⟨RX6, TX6, tyX6, 8, ckX6, by decide, rfl, rfl, rfl, Or.inl (gm 225 (by decide +kernel) rfl)⟩
theorem fX6_172 : FL RX6 172 6 3 (.boolean) false := ⟨RX6, TX6, tyX6, 8, ckX6, by decide, rfl, rfl, rfl, Or.inl (gm 226 (by decide +kernel) rfl)⟩
theorem fX6_29 : FL RX6 29 6 4 (.object "TryLoops$Text") true := ⟨RX6, TX6, tyX6, 8, ckX6, by decide, rfl, rfl, rfl, Or.inl (gm 227 (by decide +kernel) rfl)⟩
theorem fX6_36 : FL RX6 36 6 5 (.object "TryLoops$Play") true := ⟨RX6, TX6, tyX6, 8, ckX6, by decide, rfl, rfl, rfl, Or.inl (gm 228 (by decide +kernel) rfl)⟩
theorem fX6_43 : FL RX6 43 6 6 (.object "TryLoops$Row") true := ⟨RX6, TX6, tyX6, 8, ckX6, by decide, rfl, rfl, rfl, Or.inl (gm 229 (by decide +kernel) rfl)⟩
theorem fX6_47 : FL RX6 47 6 7 (.array .int) true := ⟨RX6, TX6, tyX6, 8, ckX6, by decide, rfl, rfl, rfl, Or.inl (gm 230 (by decide +kernel) rfl)⟩
theorem kL_13 : LkV R_law 13 yX6_step := ⟨Or.inl (gm 248 (by decide +kernel) rfl), gm 249 (by decide +kernel) rfl, gm 250 (by decide +kernel) rfl⟩
theorem kX6_51 : LkS RX6 51 yX6_isVerb := ⟨Or.inl (gm 252 (by decide +kernel) rfl), gm 253 (by decide +kernel) rfl⟩
theorem kX6_55 : LkS RX6 55 yX6_inRange := ⟨Or.inl (gm 255 (by decide +kernel) rfl), gm 256 (by decide +kernel) rfl⟩
theorem kX6_249 : LkS RX6 249 yX6_greatestNumber := ⟨Or.inl (gm 258 (by decide +kernel) rfl), gm 259 (by decide +kernel) rfl⟩
theorem kX6_63 : LkV RX6 63 yX4_openSize := ⟨Or.inl (gm 261 (by decide +kernel) rfl), gm 262 (by decide +kernel) rfl, gm 263 (by decide +kernel) rfl⟩
theorem kX4_37 : LkV RX4 37 yX3_sizeOf := ⟨Or.inl (gm 265 (by decide +kernel) rfl), gm 266 (by decide +kernel) rfl, gm 267 (by decide +kernel) rfl⟩
theorem kX6_67 : LkV RX6 67 yX0_push := ⟨Or.inl (gm 269 (by decide +kernel) rfl), gm 270 (by decide +kernel) rfl, gm 271 (by decide +kernel) rfl⟩
theorem kX0_22 : LkV RX0 22 yX0_dropOldest := ⟨Or.inl (gm 273 (by decide +kernel) rfl), gm 275 (by decide +kernel) rfl, gm 0 (by decide +kernel) rfl⟩
theorem kX0_25 : LkV RX0 25 yX4_copyFrom := ⟨Or.inl (gm 277 (by decide +kernel) rfl), gm 278 (by decide +kernel) rfl, gm 279 (by decide +kernel) rfl⟩
theorem kX4_69 : LkV RX4 69 yX2_copyFrom := ⟨Or.inl (gm 281 (by decide +kernel) rfl), gm 282 (by decide +kernel) rfl, gm 283 (by decide +kernel) rfl⟩
theorem kX2_23 : LkS RX2 23 yX6_copyNumbers := ⟨Or.inr ⟨"TryLoops", gn 285 (by decide +kernel) rfl⟩, gm 286 (by decide +kernel) rfl⟩
theorem kX6_255 : LkS RX6 255 yJ9_min_7cf53 := ⟨Or.inl (gm 288 (by decide +kernel) rfl), gm 289 (by decide +kernel) rfl⟩
theorem kX4_73 : LkV RX4 73 yX3_copyFrom := ⟨Or.inl (gm 294 (by decide +kernel) rfl), gm 295 (by decide +kernel) rfl, gm 296 (by decide +kernel) rfl⟩
theorem kX3_74 : LkS RX3 74 yX6_copyNumbers := ⟨Or.inr ⟨"TryLoops", gn 298 (by decide +kernel) rfl⟩, gm 286 (by decide +kernel) rfl⟩
theorem kX6_71 : LkV RX6 71 yX4_obey := ⟨Or.inl (gm 299 (by decide +kernel) rfl), gm 300 (by decide +kernel) rfl, gm 301 (by decide +kernel) rfl⟩
theorem kX4_41 : LkV RX4 41 yX2_obey := ⟨Or.inl (gm 303 (by decide +kernel) rfl), gm 304 (by decide +kernel) rfl, gm 305 (by decide +kernel) rfl⟩
theorem kX2_27 : LkV RX2 27 yX2_valueUnderHand := ⟨Or.inl (gm 307 (by decide +kernel) rfl), gm 308 (by decide +kernel) rfl, gm 309 (by decide +kernel) rfl⟩
theorem kX2_19 : LkV RX2 19 yX2_valueAt := ⟨Or.inl (gm 311 (by decide +kernel) rfl), gm 312 (by decide +kernel) rfl, gm 313 (by decide +kernel) rfl⟩
theorem kX2_31 : LkV RX2 31 yX2_put := ⟨Or.inl (gm 315 (by decide +kernel) rfl), gm 317 (by decide +kernel) rfl, gm 1 (by decide +kernel) rfl⟩
theorem kX6_84 : LkV RX6 84 yX3_append := ⟨Or.inl (gm 319 (by decide +kernel) rfl), gm 320 (by decide +kernel) rfl, gm 321 (by decide +kernel) rfl⟩
theorem kX3_38 : LkV RX3 38 yX3_sizeOf := ⟨Or.inl (gm 323 (by decide +kernel) rfl), gm 266 (by decide +kernel) rfl, gm 267 (by decide +kernel) rfl⟩
theorem kX3_55 : LkV RX3 55 yX3_hasPlace := ⟨Or.inl (gm 324 (by decide +kernel) rfl), gm 326 (by decide +kernel) rfl, gm 2 (by decide +kernel) rfl⟩
theorem kX6_91 : LkV RX6 91 yX2_valueUnderHand := ⟨Or.inl (gm 328 (by decide +kernel) rfl), gm 308 (by decide +kernel) rfl, gm 309 (by decide +kernel) rfl⟩
theorem kL_18 : LkV R_law 18 yX6_record := ⟨Or.inl (gm 329 (by decide +kernel) rfl), gm 330 (by decide +kernel) rfl, gm 331 (by decide +kernel) rfl⟩
theorem kX6_94 : LkV RX6 94 yX3_isFull := ⟨Or.inl (gm 333 (by decide +kernel) rfl), gm 334 (by decide +kernel) rfl, gm 335 (by decide +kernel) rfl⟩
theorem kX6_98 : LkV RX6 98 yX3_emptyNext := ⟨Or.inl (gm 337 (by decide +kernel) rfl), gm 338 (by decide +kernel) rfl, gm 339 (by decide +kernel) rfl⟩
theorem kL_23 : LkV R_law 23 yX6_end := ⟨Or.inl (gm 341 (by decide +kernel) rfl), gm 342 (by decide +kernel) rfl, gm 343 (by decide +kernel) rfl⟩
theorem kX6_101 : LkV RX6 101 yX3_keepNext := ⟨Or.inl (gm 345 (by decide +kernel) rfl), gm 346 (by decide +kernel) rfl, gm 347 (by decide +kernel) rfl⟩
theorem kX3_59 : LkV RX3 59 yX3_giveTurns := ⟨Or.inl (gm 349 (by decide +kernel) rfl), gm 350 (by decide +kernel) rfl, gm 351 (by decide +kernel) rfl⟩
theorem kX3_63 : LkV RX3 63 yX3_isFull := ⟨Or.inl (gm 353 (by decide +kernel) rfl), gm 334 (by decide +kernel) rfl, gm 335 (by decide +kernel) rfl⟩
theorem kL_27 : LkV R_law 27 yX6_dropTry := ⟨Or.inl (gm 354 (by decide +kernel) rfl), gm 355 (by decide +kernel) rfl, gm 356 (by decide +kernel) rfl⟩
theorem kX6_105 : LkV RX6 105 yX3_holds := ⟨Or.inl (gm 358 (by decide +kernel) rfl), gm 359 (by decide +kernel) rfl, gm 360 (by decide +kernel) rfl⟩
theorem kX6_108 : LkV RX6 108 yX3_drop := ⟨Or.inl (gm 362 (by decide +kernel) rfl), gm 363 (by decide +kernel) rfl, gm 364 (by decide +kernel) rfl⟩
theorem kX3_67 : LkV RX3 67 yX3_holds := ⟨Or.inl (gm 366 (by decide +kernel) rfl), gm 359 (by decide +kernel) rfl, gm 360 (by decide +kernel) rfl⟩
theorem kX3_70 : LkS RX3 70 yX3_moveUp := ⟨Or.inl (gm 367 (by decide +kernel) rfl), gm 368 (by decide +kernel) rfl⟩
theorem kL_32 : LkV R_law 32 yX6_generalise := ⟨Or.inl (gm 371 (by decide +kernel) rfl), gm 372 (by decide +kernel) rfl, gm 373 (by decide +kernel) rfl⟩
theorem kX6_112 : LkV RX6 112 yX6_canGeneralise := ⟨Or.inl (gm 375 (by decide +kernel) rfl), gm 377 (by decide +kernel) rfl, gm 3 (by decide +kernel) rfl⟩
theorem kX6_252 : LkV RX6 252 yX3_haveSameVerbs := ⟨Or.inl (gm 379 (by decide +kernel) rfl), gm 380 (by decide +kernel) rfl, gm 381 (by decide +kernel) rfl⟩
theorem kX3_52 : LkV RX3 52 yX3_verbAt := ⟨Or.inl (gm 383 (by decide +kernel) rfl), gm 384 (by decide +kernel) rfl, gm 385 (by decide +kernel) rfl⟩
theorem kX3_42 : LkV RX3 42 yX3_look := ⟨Or.inl (gm 387 (by decide +kernel) rfl), gm 389 (by decide +kernel) rfl, gm 4 (by decide +kernel) rfl⟩
theorem kX6_118 : LkV RX6 118 yX3_sizeOf := ⟨Or.inl (gm 391 (by decide +kernel) rfl), gm 266 (by decide +kernel) rfl, gm 267 (by decide +kernel) rfl⟩
theorem kX6_121 : LkV RX6 121 yX6_makeLoop := ⟨Or.inl (gm 392 (by decide +kernel) rfl), gm 394 (by decide +kernel) rfl, gm 5 (by decide +kernel) rfl⟩
theorem kX6_161 : LkV RX6 161 yX3_numberAt := ⟨Or.inl (gm 396 (by decide +kernel) rfl), gm 397 (by decide +kernel) rfl, gm 398 (by decide +kernel) rfl⟩
theorem kX6_157 : LkV RX6 157 yX3_verbAt := ⟨Or.inl (gm 400 (by decide +kernel) rfl), gm 384 (by decide +kernel) rfl, gm 385 (by decide +kernel) rfl⟩
theorem kL_36 : LkV R_law 36 yX6_fold := ⟨Or.inl (gm 401 (by decide +kernel) rfl), gm 402 (by decide +kernel) rfl, gm 403 (by decide +kernel) rfl⟩
theorem kX6_125 : LkV RX6 125 yX6_leastPeriod := ⟨Or.inl (gm 405 (by decide +kernel) rfl), gm 407 (by decide +kernel) rfl, gm 6 (by decide +kernel) rfl⟩
theorem kX6_267 : LkV RX6 267 yX6_repeatsBy := ⟨Or.inl (gm 409 (by decide +kernel) rfl), gm 411 (by decide +kernel) rfl, gm 7 (by decide +kernel) rfl⟩
theorem kX6_270 : LkV RX6 270 yX6_riseAt := ⟨Or.inl (gm 413 (by decide +kernel) rfl), gm 415 (by decide +kernel) rfl, gm 8 (by decide +kernel) rfl⟩
theorem kL_40 : LkV R_law 40 yX6_setTurns := ⟨Or.inl (gm 417 (by decide +kernel) rfl), gm 418 (by decide +kernel) rfl, gm 419 (by decide +kernel) rfl⟩
theorem kX6_128 : LkS RX6 128 yX6_isTurns := ⟨Or.inl (gm 421 (by decide +kernel) rfl), gm 422 (by decide +kernel) rfl⟩
theorem kX6_131 : LkV RX6 131 yX3_turnsOf := ⟨Or.inl (gm 424 (by decide +kernel) rfl), gm 425 (by decide +kernel) rfl, gm 426 (by decide +kernel) rfl⟩
theorem kX6_134 : LkV RX6 134 yX3_giveTurns := ⟨Or.inl (gm 428 (by decide +kernel) rfl), gm 350 (by decide +kernel) rfl, gm 351 (by decide +kernel) rfl⟩
theorem kL_44 : LkV R_law 44 yX6_dropLoop := ⟨Or.inl (gm 429 (by decide +kernel) rfl), gm 430 (by decide +kernel) rfl, gm 431 (by decide +kernel) rfl⟩
theorem kL_48 : LkV R_law 48 yX6_play := ⟨Or.inl (gm 433 (by decide +kernel) rfl), gm 434 (by decide +kernel) rfl, gm 435 (by decide +kernel) rfl⟩
theorem kX6_138 : LkV RX6 138 yX4_playLoop := ⟨Or.inl (gm 437 (by decide +kernel) rfl), gm 438 (by decide +kernel) rfl, gm 439 (by decide +kernel) rfl⟩
theorem kX4_51 : LkV RX4 51 yX3_turnsOf := ⟨Or.inl (gm 441 (by decide +kernel) rfl), gm 425 (by decide +kernel) rfl, gm 426 (by decide +kernel) rfl⟩
theorem kX4_54 : LkV RX4 54 yX1_doTurns := ⟨Or.inl (gm 442 (by decide +kernel) rfl), gm 443 (by decide +kernel) rfl, gm 444 (by decide +kernel) rfl⟩
theorem kX1_21 : LkV RX1 21 yX1_begin := ⟨Or.inl (gm 446 (by decide +kernel) rfl), gm 447 (by decide +kernel) rfl, gm 448 (by decide +kernel) rfl⟩
theorem kX1_24 : LkV RX1 24 yX1_doTurn := ⟨Or.inl (gm 450 (by decide +kernel) rfl), gm 451 (by decide +kernel) rfl, gm 452 (by decide +kernel) rfl⟩
theorem kX1_28 : LkV RX1 28 yX3_sizeOf := ⟨Or.inl (gm 454 (by decide +kernel) rfl), gm 266 (by decide +kernel) rfl, gm 267 (by decide +kernel) rfl⟩
theorem kX1_34 : LkV RX1 34 yX3_verbAt := ⟨Or.inl (gm 455 (by decide +kernel) rfl), gm 384 (by decide +kernel) rfl, gm 385 (by decide +kernel) rfl⟩
theorem kX1_38 : LkV RX1 38 yX3_numberInTurn := ⟨Or.inl (gm 456 (by decide +kernel) rfl), gm 457 (by decide +kernel) rfl, gm 458 (by decide +kernel) rfl⟩
theorem kX3_46 : LkV RX3 46 yX3_numberAt := ⟨Or.inl (gm 460 (by decide +kernel) rfl), gm 397 (by decide +kernel) rfl, gm 398 (by decide +kernel) rfl⟩
theorem kX3_49 : LkV RX3 49 yX3_strideAt := ⟨Or.inl (gm 461 (by decide +kernel) rfl), gm 462 (by decide +kernel) rfl, gm 463 (by decide +kernel) rfl⟩
theorem kX1_42 : LkS RX1 42 yX6_inRange := ⟨Or.inr ⟨"TryLoops", gn 465 (by decide +kernel) rfl⟩, gm 256 (by decide +kernel) rfl⟩
theorem kX1_46 : LkV RX1 46 yX2_obey := ⟨Or.inl (gm 466 (by decide +kernel) rfl), gm 304 (by decide +kernel) rfl, gm 305 (by decide +kernel) rfl⟩
theorem kL_52 : LkV R_law 52 yX6_type := ⟨Or.inl (gm 467 (by decide +kernel) rfl), gm 468 (by decide +kernel) rfl, gm 469 (by decide +kernel) rfl⟩
theorem kX6_142 : LkV RX6 142 yX5_append := ⟨Or.inl (gm 471 (by decide +kernel) rfl), gm 472 (by decide +kernel) rfl, gm 473 (by decide +kernel) rfl⟩
theorem kL_57 : LkV R_law 57 yX6_clearText := ⟨Or.inl (gm 475 (by decide +kernel) rfl), gm 476 (by decide +kernel) rfl, gm 477 (by decide +kernel) rfl⟩
theorem kL_61 : LkV R_law 61 yX6_perform := ⟨Or.inl (gm 479 (by decide +kernel) rfl), gm 480 (by decide +kernel) rfl, gm 481 (by decide +kernel) rfl⟩
theorem kX6_148 : LkV RX6 148 yX5_read := ⟨Or.inl (gm 483 (by decide +kernel) rfl), gm 484 (by decide +kernel) rfl, gm 485 (by decide +kernel) rfl⟩
theorem kX5_31 : LkV RX5 31 yX3_clear := ⟨Or.inl (gm 487 (by decide +kernel) rfl), gm 488 (by decide +kernel) rfl, gm 489 (by decide +kernel) rfl⟩
theorem kX5_34 : LkV RX5 34 yX5_readItem := ⟨Or.inl (gm 491 (by decide +kernel) rfl), gm 493 (by decide +kernel) rfl, gm 9 (by decide +kernel) rfl⟩
theorem kX5_42 : LkV RX5 42 yX3_emptyNext := ⟨Or.inl (gm 495 (by decide +kernel) rfl), gm 338 (by decide +kernel) rfl, gm 339 (by decide +kernel) rfl⟩
theorem kX5_45 : LkV RX5 45 yX5_next := ⟨Or.inl (gm 496 (by decide +kernel) rfl), gm 498 (by decide +kernel) rfl, gm 10 (by decide +kernel) rfl⟩
theorem kX5_49 : LkS RX5 49 yX5_digitOf := ⟨Or.inl (gm 500 (by decide +kernel) rfl), gm 501 (by decide +kernel) rfl⟩
theorem kX5_53 : LkV RX5 53 yX5_readStep := ⟨Or.inl (gm 503 (by decide +kernel) rfl), gm 505 (by decide +kernel) rfl, gm 11 (by decide +kernel) rfl⟩
theorem kX5_70 : LkV RX5 70 yJ0_indexOf_0f7a4 := ⟨Or.inl (gm 508 (by decide +kernel) rfl), gm 509 (by decide +kernel) rfl, gm 510 (by decide +kernel) rfl⟩
theorem kJ0_633 : LkV RJ0 633 yJ0_indexOf_7cf53 := ⟨Or.inl (gm 512 (by decide +kernel) rfl), gm 513 (by decide +kernel) rfl, gm 514 (by decide +kernel) rfl⟩
theorem kJ0_492 : LkV RJ0 492 yJ0_isLatin1_aae02 := ⟨Or.inl (gm 516 (by decide +kernel) rfl), gm 517 (by decide +kernel) rfl, gm 518 (by decide +kernel) rfl⟩
theorem kJ0_505 : LkV RJ0 505 yJ0_length_8abf5 := ⟨Or.inl (gm 522 (by decide +kernel) rfl), gm 523 (by decide +kernel) rfl, gm 524 (by decide +kernel) rfl⟩
theorem kJ0_335 : LkV RJ0 335 yJ0_coder_7d493 := ⟨Or.inl (gm 526 (by decide +kernel) rfl), gm 527 (by decide +kernel) rfl, gm 528 (by decide +kernel) rfl⟩
theorem kJ0_637 : LkS RJ0 637 yJ1_indexOf_4cfef := ⟨Or.inl (gm 530 (by decide +kernel) rfl), gm 531 (by decide +kernel) rfl⟩
theorem kJ1_88 : LkS RJ1 88 yJ1_canEncode_9a6ad := ⟨Or.inl (gm 533 (by decide +kernel) rfl), gm 534 (by decide +kernel) rfl⟩
theorem kJ1_92 : LkS RJ1 92 yJ9_max_7cf53 := ⟨Or.inl (gm 536 (by decide +kernel) rfl), gm 98 (by decide +kernel) rfl⟩
theorem kJ1_38 : LkS RJ1 38 yJ9_min_7cf53 := ⟨Or.inl (gm 537 (by decide +kernel) rfl), gm 289 (by decide +kernel) rfl⟩
theorem kJ1_95 : LkS RJ1 95 yJ1_indexOfChar_4cfef := ⟨Or.inl (gm 538 (by decide +kernel) rfl), gm 539 (by decide +kernel) rfl⟩
theorem kJ0_640 : LkS RJ0 640 yJ2_indexOf_4cfef := ⟨Or.inl (gm 541 (by decide +kernel) rfl), gm 542 (by decide +kernel) rfl⟩
theorem kJ2_224 : LkS RJ2 224 yJ9_max_7cf53 := ⟨Or.inl (gm 544 (by decide +kernel) rfl), gm 98 (by decide +kernel) rfl⟩
theorem kJ2_183 : LkS RJ2 183 yJ9_min_7cf53 := ⟨Or.inl (gm 545 (by decide +kernel) rfl), gm 289 (by decide +kernel) rfl⟩
theorem kJ2_228 : LkS RJ2 228 yJ2_indexOfChar_4cfef := ⟨Or.inl (gm 547 (by decide +kernel) rfl), gm 548 (by decide +kernel) rfl⟩
theorem kJ2_96 : LkS RJ2 96 yJ2_checkBoundsBeginEnd_d044e := ⟨Or.inl (gm 550 (by decide +kernel) rfl), gm 551 (by decide +kernel) rfl⟩
theorem kJ2_48 : LkS RJ2 48 yJ2_length_9d52b := ⟨Or.inl (gm 553 (by decide +kernel) rfl), gm 554 (by decide +kernel) rfl⟩
theorem kJ2_241 : LkS RJ2 241 yJ0_checkBoundsBeginEnd_23922 := ⟨Or.inl (gm 556 (by decide +kernel) rfl), gm 557 (by decide +kernel) rfl⟩
theorem kJ0_1062 : LkS RJ0 1062 yJ3_checkFromToIndex_8c36e := ⟨Or.inl (gm 561 (by decide +kernel) rfl), gm 562 (by decide +kernel) rfl⟩
theorem kJ2_244 : LkS RJ2 244 yJ2_indexOfCharUnsafe_4cfef := ⟨Or.inl (gm 564 (by decide +kernel) rfl), gm 565 (by decide +kernel) rfl⟩
theorem kJ2_71 : LkS RJ2 71 yJ2_getChar_3b067 := ⟨Or.inl (gm 567 (by decide +kernel) rfl), gm 568 (by decide +kernel) rfl⟩
theorem kJ2_232 : LkS RJ2 232 yJ2_indexOfSupplementary_4cfef := ⟨Or.inl (gm 576 (by decide +kernel) rfl), gm 577 (by decide +kernel) rfl⟩
theorem kJ2_164 : LkS RJ2 164 yJ11_isValidCodePoint_9a6ad := ⟨Or.inl (gm 579 (by decide +kernel) rfl), gm 580 (by decide +kernel) rfl⟩
theorem kJ2_157 : LkS RJ2 157 yJ11_highSurrogate_5068e := ⟨Or.inl (gm 582 (by decide +kernel) rfl), gm 583 (by decide +kernel) rfl⟩
theorem kJ2_161 : LkS RJ2 161 yJ11_lowSurrogate_5068e := ⟨Or.inl (gm 586 (by decide +kernel) rfl), gm 587 (by decide +kernel) rfl⟩
theorem kX5_75 : LkS RX5 75 yX6_greatestNumber := ⟨Or.inr ⟨"TryLoops", gn 590 (by decide +kernel) rfl⟩, gm 259 (by decide +kernel) rfl⟩
theorem kX5_57 : LkV RX5 57 yX5_readNumber := ⟨Or.inl (gm 591 (by decide +kernel) rfl), gm 593 (by decide +kernel) rfl, gm 12 (by decide +kernel) rfl⟩
theorem kX5_81 : LkV RX5 81 yX3_append := ⟨Or.inl (gm 595 (by decide +kernel) rfl), gm 320 (by decide +kernel) rfl, gm 321 (by decide +kernel) rfl⟩
theorem kX5_61 : LkV RX5 61 yX5_readBody := ⟨Or.inl (gm 596 (by decide +kernel) rfl), gm 598 (by decide +kernel) rfl, gm 13 (by decide +kernel) rfl⟩
theorem kX5_38 : LkV RX5 38 yX5_take := ⟨Or.inl (gm 600 (by decide +kernel) rfl), gm 602 (by decide +kernel) rfl, gm 14 (by decide +kernel) rfl⟩
theorem kX5_64 : LkV RX5 64 yX3_keepNext := ⟨Or.inl (gm 604 (by decide +kernel) rfl), gm 346 (by decide +kernel) rfl, gm 347 (by decide +kernel) rfl⟩
theorem kL_65 : LkV R_law 65 yX6_undo := ⟨Or.inl (gm 606 (by decide +kernel) rfl), gm 607 (by decide +kernel) rfl, gm 608 (by decide +kernel) rfl⟩
theorem kX6_164 : LkV RX6 164 yX0_pop := ⟨Or.inl (gm 610 (by decide +kernel) rfl), gm 611 (by decide +kernel) rfl, gm 612 (by decide +kernel) rfl⟩
theorem kL_69 : LkV R_law 69 yX6_keep := ⟨Or.inl (gm 614 (by decide +kernel) rfl), gm 615 (by decide +kernel) rfl, gm 616 (by decide +kernel) rfl⟩
theorem kX6_169 : LkV RX6 169 yX4_copyFrom := ⟨Or.inl (gm 618 (by decide +kernel) rfl), gm 278 (by decide +kernel) rfl, gm 279 (by decide +kernel) rfl⟩
theorem kL_73 : LkV R_law 73 yX6_restore := ⟨Or.inl (gm 619 (by decide +kernel) rfl), gm 620 (by decide +kernel) rfl, gm 621 (by decide +kernel) rfl⟩
theorem kL_77 : LkV R_law 77 yX6_cell := ⟨Or.inl (gm 623 (by decide +kernel) rfl), gm 624 (by decide +kernel) rfl, gm 625 (by decide +kernel) rfl⟩
theorem kX6_175 : LkS RX6 175 yX6_isCell := ⟨Or.inl (gm 627 (by decide +kernel) rfl), gm 628 (by decide +kernel) rfl⟩
theorem kX6_178 : LkV RX6 178 yX2_valueAt := ⟨Or.inl (gm 630 (by decide +kernel) rfl), gm 312 (by decide +kernel) rfl, gm 313 (by decide +kernel) rfl⟩
theorem kL_81 : LkV R_law 81 yX6_ofTry := ⟨Or.inl (gm 631 (by decide +kernel) rfl), gm 632 (by decide +kernel) rfl, gm 633 (by decide +kernel) rfl⟩
theorem kX6_181 : LkV RX6 181 yX3_hasStep := ⟨Or.inl (gm 635 (by decide +kernel) rfl), gm 636 (by decide +kernel) rfl, gm 637 (by decide +kernel) rfl⟩
theorem kL_86 : LkV R_law 86 yX6_ofLoop := ⟨Or.inl (gm 639 (by decide +kernel) rfl), gm 640 (by decide +kernel) rfl, gm 641 (by decide +kernel) rfl⟩
theorem kX6_184 : LkV RX6 184 yX3_strideAt := ⟨Or.inl (gm 643 (by decide +kernel) rfl), gm 462 (by decide +kernel) rfl, gm 463 (by decide +kernel) rfl⟩
theorem kX6_187 : LkV RX6 187 yX3_numberInTurn := ⟨Or.inl (gm 644 (by decide +kernel) rfl), gm 457 (by decide +kernel) rfl, gm 458 (by decide +kernel) rfl⟩
theorem kL_90 : LkV R_law 90 yX6_length := ⟨Or.inl (gm 645 (by decide +kernel) rfl), gm 646 (by decide +kernel) rfl, gm 647 (by decide +kernel) rfl⟩
theorem kL_94 : LkV R_law 94 yX6_total := ⟨Or.inl (gm 649 (by decide +kernel) rfl), gm 650 (by decide +kernel) rfl, gm 651 (by decide +kernel) rfl⟩
theorem kX6_194 : LkV RX6 194 yX2_sum := ⟨Or.inl (gm 653 (by decide +kernel) rfl), gm 654 (by decide +kernel) rfl, gm 655 (by decide +kernel) rfl⟩
theorem kX6_209 : LkV RX6 209 yX6_countVerbRows := ⟨Or.inl (gm 657 (by decide +kernel) rfl), gm 659 (by decide +kernel) rfl, gm 15 (by decide +kernel) rfl⟩
theorem kL_98 : LkV R_law 98 yX6_alike := ⟨Or.inl (gm 661 (by decide +kernel) rfl), gm 662 (by decide +kernel) rfl, gm 663 (by decide +kernel) rfl⟩
theorem kX6_212 : LkV RX6 212 yX6_countCommon := ⟨Or.inl (gm 665 (by decide +kernel) rfl), gm 667 (by decide +kernel) rfl, gm 16 (by decide +kernel) rfl⟩
theorem kX6_260 : LkV RX6 260 yX6_areAlike := ⟨Or.inl (gm 669 (by decide +kernel) rfl), gm 671 (by decide +kernel) rfl, gm 17 (by decide +kernel) rfl⟩
theorem kX6_264 : LkS RX6 264 yJ9_max_7cf53 := ⟨Or.inl (gm 673 (by decide +kernel) rfl), gm 98 (by decide +kernel) rfl⟩
theorem kL_102 : LkV R_law 102 yX6_bestPair := ⟨Or.inl (gm 674 (by decide +kernel) rfl), gm 675 (by decide +kernel) rfl, gm 676 (by decide +kernel) rfl⟩
theorem kX6_216 : LkV RX6 216 yX6_countZeroStrides := ⟨Or.inl (gm 678 (by decide +kernel) rfl), gm 680 (by decide +kernel) rfl, gm 18 (by decide +kernel) rfl⟩
theorem kL_106 : LkV R_law 106 yX6_fits := ⟨Or.inl (gm 682 (by decide +kernel) rfl), gm 683 (by decide +kernel) rfl, gm 684 (by decide +kernel) rfl⟩
theorem kX6_219 : LkV RX6 219 yX6_isTurn := ⟨Or.inl (gm 686 (by decide +kernel) rfl), gm 688 (by decide +kernel) rfl, gm 19 (by decide +kernel) rfl⟩
theorem kL_110 : LkV R_law 110 yX6_mostTurns := ⟨Or.inl (gm 690 (by decide +kernel) rfl), gm 691 (by decide +kernel) rfl, gm 692 (by decide +kernel) rfl⟩
theorem kX6_223 : LkV RX6 223 yX6_turnsInRange := ⟨Or.inl (gm 694 (by decide +kernel) rfl), gm 696 (by decide +kernel) rfl, gm 20 (by decide +kernel) rfl⟩
theorem kL_114 : LkV R_law 114 yX6_ifPlayed := ⟨Or.inl (gm 698 (by decide +kernel) rfl), gm 699 (by decide +kernel) rfl, gm 700 (by decide +kernel) rfl⟩
theorem kX6_226 : LkV RX6 226 yX2_copyFrom := ⟨Or.inl (gm 702 (by decide +kernel) rfl), gm 282 (by decide +kernel) rfl, gm 283 (by decide +kernel) rfl⟩
theorem kX6_229 : LkV RX6 229 yX1_doTurns := ⟨Or.inl (gm 703 (by decide +kernel) rfl), gm 443 (by decide +kernel) rfl, gm 444 (by decide +kernel) rfl⟩
theorem kL_118 : LkV R_law 118 yX6_fewestTurns := ⟨Or.inl (gm 704 (by decide +kernel) rfl), gm 705 (by decide +kernel) rfl, gm 706 (by decide +kernel) rfl⟩
theorem kX6_242 : LkV RX6 242 yX1_begin := ⟨Or.inl (gm 708 (by decide +kernel) rfl), gm 447 (by decide +kernel) rfl, gm 448 (by decide +kernel) rfl⟩
theorem kX6_245 : LkV RX6 245 yX1_doTurn := ⟨Or.inl (gm 709 (by decide +kernel) rfl), gm 451 (by decide +kernel) rfl, gm 452 (by decide +kernel) rfl⟩
theorem kL_12 : LkI R_law 12 yX7_init := ⟨Or.inl (gm 712 (by decide +kernel) rfl), gm 713 (by decide +kernel) rfl, rfl⟩
theorem fX7_7 : FL RX7 7 7 0 (.array .int) true := ⟨RX7, TX7, tyX7, 14, ckX7, by decide, rfl, rfl, rfl, Or.inl (gm 716 (by decide +kernel) rfl)⟩
theorem fX7_13 : FL RX7 13 7 1 (.array .int) true := ⟨RX7, TX7, tyX7, 14, ckX7, by decide, rfl, rfl, rfl, Or.inl (gm 717 (by decide +kernel) rfl)⟩
theorem fX7_16 : FL RX7 16 7 2 (.array .int) true := ⟨RX7, TX7, tyX7, 14, ckX7, by decide, rfl, rfl, rfl, Or.inl (gm 718 (by decide +kernel) rfl)⟩
theorem fX7_41 : FL RX7 41 7 3 (.int) false := ⟨RX7, TX7, tyX7, 14, ckX7, by decide, rfl, rfl, rfl, Or.inl (gm 719 (by decide +kernel) rfl)⟩
theorem fX7_19 : FL RX7 19 7 4 (.array .int) true := ⟨RX7, TX7, tyX7, 14, ckX7, by decide, rfl, rfl, rfl, Or.inl (gm 720 (by decide +kernel) rfl)⟩
theorem fX7_49 : FL RX7 49 7 5 (.boolean) false := ⟨RX7, TX7, tyX7, 14, ckX7, by decide, rfl, rfl, rfl, Or.inl (gm 721 (by decide +kernel) rfl)⟩
theorem fX7_22 : FL RX7 22 7 6 (.array .int) true := ⟨RX7, TX7, tyX7, 14, ckX7, by decide, rfl, rfl, rfl, Or.inl (gm 722 (by decide +kernel) rfl)⟩
theorem fX7_112 : FL RX7 112 7 7 (.int) false := ⟨RX7, TX7, tyX7, 14, ckX7, by decide, rfl, rfl, rfl, Or.inl (gm 723 (by decide +kernel) rfl)⟩
theorem fX7_25 : FL RX7 25 7 8 (.array .int) true := ⟨RX7, TX7, tyX7, 14, ckX7, by decide, rfl, rfl, rfl, Or.inl (gm 724 (by decide +kernel) rfl)⟩
theorem fX7_28 : FL RX7 28 7 9 (.array .int) true := ⟨RX7, TX7, tyX7, 14, ckX7, by decide, rfl, rfl, rfl, Or.inl (gm 725 (by decide +kernel) rfl)⟩
theorem fX7_31 : FL RX7 31 7 10 (.array .int) true := ⟨RX7, TX7, tyX7, 14, ckX7, by decide, rfl, rfl, rfl, Or.inl (gm 726 (by decide +kernel) rfl)⟩
theorem fX7_95 : FL RX7 95 7 11 (.int) false := ⟨RX7, TX7, tyX7, 14, ckX7, by decide, rfl, rfl, rfl, Or.inl (gm 727 (by decide +kernel) rfl)⟩
theorem fX7_115 : FL RX7 115 7 12 (.int) false := ⟨RX7, TX7, tyX7, 14, ckX7, by decide, rfl, rfl, rfl, Or.inl (gm 728 (by decide +kernel) rfl)⟩
theorem fX7_34 : FL RX7 34 7 13 (.array .int) true := ⟨RX7, TX7, tyX7, 14, ckX7, by decide, rfl, rfl, rfl, Or.inl (gm 729 (by decide +kernel) rfl)⟩
theorem kL_68 : LkV R_law 68 yX7_undo := ⟨Or.inl (gm 759 (by decide +kernel) rfl), gm 760 (by decide +kernel) rfl, gm 761 (by decide +kernel) rfl⟩
theorem kX7_45 : LkS RX7 45 yX7_copyState := ⟨Or.inl (gm 763 (by decide +kernel) rfl), gm 764 (by decide +kernel) rfl⟩
theorem kL_72 : LkV R_law 72 yX7_keep := ⟨Or.inl (gm 766 (by decide +kernel) rfl), gm 767 (by decide +kernel) rfl, gm 768 (by decide +kernel) rfl⟩
theorem kL_76 : LkV R_law 76 yX7_restore := ⟨Or.inl (gm 770 (by decide +kernel) rfl), gm 771 (by decide +kernel) rfl, gm 772 (by decide +kernel) rfl⟩
theorem kX7_53 : LkV RX7 53 yX7_save := ⟨Or.inl (gm 774 (by decide +kernel) rfl), gm 776 (by decide +kernel) rfl, gm 21 (by decide +kernel) rfl⟩
theorem kL_17 : LkV R_law 17 yX7_step := ⟨Or.inl (gm 778 (by decide +kernel) rfl), gm 779 (by decide +kernel) rfl, gm 780 (by decide +kernel) rfl⟩
theorem kX7_37 : LkS RX7 37 yX7_in := ⟨Or.inl (gm 782 (by decide +kernel) rfl), gm 783 (by decide +kernel) rfl⟩
theorem kX7_56 : LkS RX7 56 yX7_greatest := ⟨Or.inl (gm 785 (by decide +kernel) rfl), gm 786 (by decide +kernel) rfl⟩
theorem kX7_60 : LkV RX7 60 yX7_sizeOf := ⟨Or.inl (gm 788 (by decide +kernel) rfl), gm 790 (by decide +kernel) rfl, gm 22 (by decide +kernel) rfl⟩
theorem kX7_63 : LkV RX7 63 yX7_doStep := ⟨Or.inl (gm 792 (by decide +kernel) rfl), gm 794 (by decide +kernel) rfl, gm 23 (by decide +kernel) rfl⟩
theorem kL_22 : LkV R_law 22 yX7_record := ⟨Or.inl (gm 796 (by decide +kernel) rfl), gm 797 (by decide +kernel) rfl, gm 798 (by decide +kernel) rfl⟩
theorem kL_26 : LkV R_law 26 yX7_end := ⟨Or.inl (gm 800 (by decide +kernel) rfl), gm 801 (by decide +kernel) rfl, gm 802 (by decide +kernel) rfl⟩
theorem kL_31 : LkV R_law 31 yX7_dropTry := ⟨Or.inl (gm 804 (by decide +kernel) rfl), gm 805 (by decide +kernel) rfl, gm 806 (by decide +kernel) rfl⟩
theorem kX7_67 : LkV RX7 67 yX7_isTry := ⟨Or.inl (gm 808 (by decide +kernel) rfl), gm 810 (by decide +kernel) rfl, gm 24 (by decide +kernel) rfl⟩
theorem kL_35 : LkV R_law 35 yX7_generalise := ⟨Or.inl (gm 812 (by decide +kernel) rfl), gm 813 (by decide +kernel) rfl, gm 814 (by decide +kernel) rfl⟩
theorem kX7_78 : LkV RX7 78 yX7_areLike := ⟨Or.inl (gm 816 (by decide +kernel) rfl), gm 818 (by decide +kernel) rfl, gm 25 (by decide +kernel) rfl⟩
theorem kX7_71 : LkV RX7 71 yX7_verbOf := ⟨Or.inl (gm 820 (by decide +kernel) rfl), gm 822 (by decide +kernel) rfl, gm 26 (by decide +kernel) rfl⟩
theorem kX7_81 : LkV RX7 81 yX7_newLoop := ⟨Or.inl (gm 824 (by decide +kernel) rfl), gm 826 (by decide +kernel) rfl, gm 27 (by decide +kernel) rfl⟩
theorem kX7_75 : LkV RX7 75 yX7_numberOf := ⟨Or.inl (gm 828 (by decide +kernel) rfl), gm 830 (by decide +kernel) rfl, gm 28 (by decide +kernel) rfl⟩
theorem kX7_85 : LkV RX7 85 yX7_stride := ⟨Or.inl (gm 832 (by decide +kernel) rfl), gm 834 (by decide +kernel) rfl, gm 29 (by decide +kernel) rfl⟩
theorem kL_39 : LkV R_law 39 yX7_fold := ⟨Or.inl (gm 836 (by decide +kernel) rfl), gm 837 (by decide +kernel) rfl, gm 838 (by decide +kernel) rfl⟩
theorem kX7_89 : LkV RX7 89 yX7_canFold := ⟨Or.inl (gm 840 (by decide +kernel) rfl), gm 842 (by decide +kernel) rfl, gm 30 (by decide +kernel) rfl⟩
theorem kL_43 : LkV R_law 43 yX7_setTurns := ⟨Or.inl (gm 844 (by decide +kernel) rfl), gm 845 (by decide +kernel) rfl, gm 846 (by decide +kernel) rfl⟩
theorem kX7_92 : LkV RX7 92 yX7_isLoop := ⟨Or.inl (gm 848 (by decide +kernel) rfl), gm 850 (by decide +kernel) rfl, gm 31 (by decide +kernel) rfl⟩
theorem kL_47 : LkV R_law 47 yX7_dropLoop := ⟨Or.inl (gm 852 (by decide +kernel) rfl), gm 853 (by decide +kernel) rfl, gm 854 (by decide +kernel) rfl⟩
theorem kL_51 : LkV R_law 51 yX7_play := ⟨Or.inl (gm 856 (by decide +kernel) rfl), gm 857 (by decide +kernel) rfl, gm 858 (by decide +kernel) rfl⟩
theorem kX7_108 : LkV RX7 108 yX7_playLoop := ⟨Or.inl (gm 860 (by decide +kernel) rfl), gm 862 (by decide +kernel) rfl, gm 32 (by decide +kernel) rfl⟩
theorem kX7_101 : LkV RX7 101 yX7_takeBody := ⟨Or.inl (gm 864 (by decide +kernel) rfl), gm 866 (by decide +kernel) rfl, gm 33 (by decide +kernel) rfl⟩
theorem kX7_105 : LkV RX7 105 yX7_playBody := ⟨Or.inl (gm 868 (by decide +kernel) rfl), gm 870 (by decide +kernel) rfl, gm 34 (by decide +kernel) rfl⟩
theorem kX7_98 : LkV RX7 98 yX7_turn := ⟨Or.inl (gm 872 (by decide +kernel) rfl), gm 874 (by decide +kernel) rfl, gm 35 (by decide +kernel) rfl⟩
theorem kL_56 : LkV R_law 56 yX7_type := ⟨Or.inl (gm 876 (by decide +kernel) rfl), gm 877 (by decide +kernel) rfl, gm 878 (by decide +kernel) rfl⟩
theorem kL_60 : LkV R_law 60 yX7_clearText := ⟨Or.inl (gm 880 (by decide +kernel) rfl), gm 881 (by decide +kernel) rfl, gm 882 (by decide +kernel) rfl⟩
theorem kL_64 : LkV R_law 64 yX7_perform := ⟨Or.inl (gm 884 (by decide +kernel) rfl), gm 885 (by decide +kernel) rfl, gm 886 (by decide +kernel) rfl⟩
theorem kX7_138 : LkV RX7 138 yX7_readText := ⟨Or.inl (gm 888 (by decide +kernel) rfl), gm 890 (by decide +kernel) rfl, gm 36 (by decide +kernel) rfl⟩
theorem kX7_134 : LkV RX7 134 yX7_readItem := ⟨Or.inl (gm 892 (by decide +kernel) rfl), gm 894 (by decide +kernel) rfl, gm 37 (by decide +kernel) rfl⟩
theorem kX7_118 : LkV RX7 118 yX7_sees := ⟨Or.inl (gm 896 (by decide +kernel) rfl), gm 898 (by decide +kernel) rfl, gm 38 (by decide +kernel) rfl⟩
theorem kX7_130 : LkV RX7 130 yX7_readStep := ⟨Or.inl (gm 900 (by decide +kernel) rfl), gm 902 (by decide +kernel) rfl, gm 39 (by decide +kernel) rfl⟩
theorem kX7_121 : LkS RX7 121 yX7_verbBy := ⟨Or.inl (gm 904 (by decide +kernel) rfl), gm 905 (by decide +kernel) rfl⟩
theorem kX7_124 : LkV RX7 124 yX7_number := ⟨Or.inl (gm 907 (by decide +kernel) rfl), gm 909 (by decide +kernel) rfl, gm 40 (by decide +kernel) rfl⟩
theorem kX7_127 : LkV RX7 127 yX7_takes := ⟨Or.inl (gm 911 (by decide +kernel) rfl), gm 913 (by decide +kernel) rfl, gm 41 (by decide +kernel) rfl⟩
theorem kL_80 : LkV R_law 80 yX7_cell := ⟨Or.inl (gm 915 (by decide +kernel) rfl), gm 916 (by decide +kernel) rfl, gm 917 (by decide +kernel) rfl⟩
theorem kL_85 : LkV R_law 85 yX7_ofTry := ⟨Or.inl (gm 919 (by decide +kernel) rfl), gm 920 (by decide +kernel) rfl, gm 921 (by decide +kernel) rfl⟩
theorem kL_89 : LkV R_law 89 yX7_ofLoop := ⟨Or.inl (gm 923 (by decide +kernel) rfl), gm 924 (by decide +kernel) rfl, gm 925 (by decide +kernel) rfl⟩
theorem kL_93 : LkV R_law 93 yX7_length := ⟨Or.inl (gm 927 (by decide +kernel) rfl), gm 928 (by decide +kernel) rfl, gm 929 (by decide +kernel) rfl⟩
theorem kL_97 : LkV R_law 97 yX7_total := ⟨Or.inl (gm 931 (by decide +kernel) rfl), gm 932 (by decide +kernel) rfl, gm 933 (by decide +kernel) rfl⟩
theorem kX7_141 : LkV RX7 141 yX7_sum := ⟨Or.inl (gm 935 (by decide +kernel) rfl), gm 937 (by decide +kernel) rfl, gm 42 (by decide +kernel) rfl⟩
theorem kX7_144 : LkV RX7 144 yX7_rowsOfVerbs := ⟨Or.inl (gm 939 (by decide +kernel) rfl), gm 941 (by decide +kernel) rfl, gm 43 (by decide +kernel) rfl⟩
theorem kL_101 : LkV R_law 101 yX7_alike := ⟨Or.inl (gm 943 (by decide +kernel) rfl), gm 944 (by decide +kernel) rfl, gm 945 (by decide +kernel) rfl⟩
theorem kL_105 : LkV R_law 105 yX7_bestPair := ⟨Or.inl (gm 947 (by decide +kernel) rfl), gm 948 (by decide +kernel) rfl, gm 949 (by decide +kernel) rfl⟩
theorem kX7_147 : LkV RX7 147 yX7_likeNumbers := ⟨Or.inl (gm 951 (by decide +kernel) rfl), gm 953 (by decide +kernel) rfl, gm 44 (by decide +kernel) rfl⟩
theorem kL_109 : LkV R_law 109 yX7_fits := ⟨Or.inl (gm 955 (by decide +kernel) rfl), gm 956 (by decide +kernel) rfl, gm 957 (by decide +kernel) rfl⟩
theorem kL_113 : LkV R_law 113 yX7_mostTurns := ⟨Or.inl (gm 959 (by decide +kernel) rfl), gm 960 (by decide +kernel) rfl, gm 961 (by decide +kernel) rfl⟩
theorem kL_117 : LkV R_law 117 yX7_ifPlayed := ⟨Or.inl (gm 963 (by decide +kernel) rfl), gm 964 (by decide +kernel) rfl, gm 965 (by decide +kernel) rfl⟩
theorem kX7_150 : LkV RX7 150 yX7_tests := ⟨Or.inl (gm 967 (by decide +kernel) rfl), gm 969 (by decide +kernel) rfl, gm 45 (by decide +kernel) rfl⟩
theorem kL_121 : LkV R_law 121 yX7_fewestTurns := ⟨Or.inl (gm 971 (by decide +kernel) rfl), gm 972 (by decide +kernel) rfl, gm 973 (by decide +kernel) rfl⟩
end
section
/-! Small words: truth as a number, results that read, calls that read. -/
def bI (p : Prop) [Decidable p] : Int32 := if p then 1 else 0
theorem bI_t {p : Prop} [Decidable p] (h : p) : bI p = 1 := if_pos h
theorem bI_f {p : Prop} [Decidable p] (h : ¬ p) : bI p = 0 := if_neg h
theorem bI_nar {p : Prop} [Decidable p] : narrow .boolean (.int (bI p)) = .int (bI p) := by
  unfold bI; split <;> rfl
theorem bI_fit {p : Prop} [Decidable p] : fits .boolean (.int (bI p)) = true := by
  unfold bI; split <;> rfl
theorem bI_0 {p : Prop} [Decidable p] : bI p = 0 ↔ ¬ p := by
  unfold bI; split <;> simp_all
theorem bI_ne0 {p : Prop} [Decidable p] : ¬ bI p = 0 ↔ p := by
  unfold bI; split <;> simp_all
def Rd (v : Value) (h : Hp) : Option Value → Hp → Prop := fun r h' => r = some v ∧ h' = h
def Ru (h1 : Hp) : Option Value → Hp → Prop := fun r h' => r = none ∧ h' = h1
def Rv (P : Hp → Prop) : Option Value → Hp → Prop := fun r h' => r = none ∧ P h'
def Ri (P : Int32 → Hp → Prop) : Option Value → Hp → Prop := fun r h' => ∃ x : Int32, r = some (.int x) ∧ P x h'
theorem Rd_i {x y : Int32} {h : Hp} (e : x = y) : Rd (.int y) h (some (.int x)) h := ⟨by rw [e], rfl⟩
section ROWS3
variable {G : GT} {l : Launch} {own mn : String} {cc : ByteArray} {mL : Nat} {ret : Option FieldType} {R : Room} {E : ET} {Qc : QT} {sz k n pc nx tg : Nat} {L : List (Option Value)} {st : List Value} {h : Hp}
theorem V_callVr {y : MethodName} {yc : ByteArray} {ymL d' idx b ci : Nat} {yret : Option FieldType} {As rest stk fs : List Value} {v : Value} (hd : Dc cc pc (.invokevirtual idx) 3 nx) (hk : LkV own idx y) (hy : Yk y yc ymL yret As.length) (he : h b = some (.inr (ci, fs))) (hci : (vwCl[ci]?).map (fun q => q.1) = some y.cls)
    (hm : Ct G l y yc ymL yret d' 0 0 (sz + k) (.ref b :: As) h (Rd v h)) (hst : stk = As.reverse ++ .ref b :: rest) (h8 : (rest.map fun v => v.category).sum ≤ 8) (hR : d' + 1 ≤ R.frames ∧ 8 + (ymL + 11) + 31 * d' ≤ R.locals ∧ k + 0 ≤ R.cells ∧ n + 0 ≤ R.slots)
    (kk : V G l own mn cc mL ret R E Qc sz k n nx L (v :: rest) h) : V G l own mn cc mL ret R E Qc sz k n pc L stk h :=
  V_callV hd hk hy he hci hm hst h8 hR (fun r h' q => by obtain ⟨rfl, rfl⟩ := q; exact kk)
theorem V_callSr {y : MethodName} {yc : ByteArray} {ymL d' idx : Nat} {yret : Option FieldType} {As rest stk : List Value} {v : Value} (hd : Dc cc pc (.invokestatic idx) 3 nx) (hk : LkS own idx y) (hy : Yk y yc ymL yret As.length)
    (hm : Ct G l y yc ymL yret d' 0 0 (sz + k) As h (Rd v h)) (hst : stk = As.reverse ++ rest) (h8 : (rest.map fun v => v.category).sum ≤ 8) (hR : d' + 1 ≤ R.frames ∧ 8 + (ymL + 11) + 31 * d' ≤ R.locals ∧ k + 0 ≤ R.cells ∧ n + 0 ≤ R.slots)
    (kk : V G l own mn cc mL ret R E Qc sz k n nx L (v :: rest) h) : V G l own mn cc mL ret R E Qc sz k n pc L stk h :=
  V_callS hd hk hy hm hst h8 hR (fun r h' q => by obtain ⟨rfl, rfl⟩ := q; exact kk)
end ROWS3
/-! Numbers: Int32 as Int. -/
theorem i_lt {x y : Int32} : x < y ↔ x.toInt < y.toInt := Int32.lt_iff_toInt_lt
theorem i_le {x y : Int32} : x ≤ y ↔ x.toInt ≤ y.toInt := Int32.le_iff_toInt_le
theorem i_eq {x y : Int32} : x = y ↔ x.toInt = y.toInt := ⟨fun h => by rw [h], fun h => Int32.toInt_inj.mp h⟩
theorem nIt {n : Nat} (h : n < 2147483648) : (nI n).toInt = (n : Int) := nI_toInt h
/-- a number that is in [0, N): as nI -/
theorem nI_ex {x : Int32} (h : 0 ≤ x.toInt) : x = nI x.toInt.toNat := by
  have h2 := Int32.toInt_lt x
  rw [i_eq, nI_toInt (by omega)]
  omega
end
section
/-! The world of the law as a block of 115 cells from an address a on: cell j holds kE G a j (C j), where C j is a row of numbers (its scalars, or its array). -/
abbrev CT : Type := Nat → Nat → Int32
def mset (C : CT) (j : Nat) (f : Nat → Int32) : CT := fun i => if i = j then f else C i
theorem mset_s {C : CT} {j : Nat} {f : Nat → Int32} : mset C j f j = f := by simp [mset]
theorem mset_n {C : CT} {j i : Nat} {f : Nat → Int32} (h : i ≠ j) : mset C j f i = C i := by simp [mset, h]
theorem mset_ss {C : CT} {j : Nat} {f g : Nat → Int32} : mset (mset C j f) j g = mset C j g := by
  funext i; unfold mset; split <;> rfl
theorem mset_eta {C : CT} {j : Nat} : mset C j (C j) = C := by
  funext i; unfold mset; split
  · subst_vars; rfl
  · rfl
def shE (G : GT) (a q W : Nat) (f : Nat → Int32) : va_E := .inr (3, [.int (nI W), .ref (a + (q + 1)), .ref (a + (q + 2)), .ref (a + (q + 3)), .ref (a + (q + 4)), .ref (a + (q + 5)), .int (f 0)])
def stE (G : GT) (a s i : Nat) (f : Nat → Int32) : va_E :=
  if i = 0 then .inr (4, [.ref (a + (s + 1)), .ref (a + (s + 3)), .ref (a + (s + 9)), .int (f 0), .int (f 1), .int (f 2), .int (f 3), .int (f 4)])
  else if i = 1 then .inr (2, [.ref (a + (s + 2)), .int (f 0)])
  else if i = 2 then iA G 30 f
  else if i = 3 then shE G a (s + 3) 12 f
  else if i < 7 then iA G 72 f
  else if i < 9 then iA G 6 f
  else if i = 9 then shE G a (s + 9) 12 f
  else if i < 13 then iA G 72 f
  else iA G 6 f
def kE (G : GT) (a j : Nat) (f : Nat → Int32) : va_E :=
  if j = 0 then .inr (6, [.ref (a + 1), .ref (a + 16), .ref (a + 78), .int (f 0), .ref (a + 93), .ref (a + 101), .ref (a + 102), .ref (a + 104)])
  else if j < 16 then stE G a 1 (j - 1) f
  else if j = 16 then .inr (0, [.ref (a + 17), .int (f 0)])
  else if j = 17 then sA G 4 (fun i => some (a + (18 + 15 * (f i).toInt.toNat)))
  else if j < 33 then stE G a 18 (j - 18) f
  else if j < 48 then stE G a 33 (j - 33) f
  else if j < 63 then stE G a 48 (j - 48) f
  else if j < 78 then stE G a 63 (j - 63) f
  else if j < 93 then stE G a 78 (j - 78) f
  else if j = 93 then .inr (5, [.ref (a + 94), .int (f 0), .int (f 1), .ref (a + 95)])
  else if j = 94 then chA G 60 f
  else if j = 95 then shE G a 95 20 f
  else if j < 99 then iA G 400 f
  else if j < 101 then iA G 20 f
  else if j = 101 then .inr (1, [.int (f 0), .int (f 1), .int (f 2)])
  else if j = 102 then .inr (2, [.ref (a + 103), .int (f 0)])
  else if j = 103 then iA G 30 f
  else if j = 104 then iA G 13 f
  else if j = 105 then .inr (7, [.ref (a + 106), .ref (a + 107), .ref (a + 108), .int (f 0), .ref (a + 109), .int (f 1), .ref (a + 110), .int (f 2), .ref (a + 111), .ref (a + 112), .ref (a + 113), .int (f 3), .int (f 4), .ref (a + 114)])
  else if j < 108 then iA G 441 f
  else if j = 108 then iA G 1764 f
  else if j = 109 then iA G 441 f
  else if j = 110 then iA G 60 f
  else if j < 114 then iA G 20 f
  else iA G 169 f
def B (G : GT) (a : Nat) (C : CT) : Hp := fun q => if a ≤ q ∧ q < a + 115 then some (kE G a (q - a) (C (q - a))) else none
theorem B_at {G : GT} {a j : Nat} {C : CT} {e : va_E} (hj : j < 115) (hk : kE G a j (C j) = e) : B G a C (a + j) = some e := by
  have h1 : a ≤ a + j ∧ a + j < a + 115 := by omega
  have h2 : a + j - a = j := by omega
  simp [B, h1, h2, hk]
theorem B_set {G : GT} {a j : Nat} {C : CT} {f : Nat → Int32} {e : va_E} (hj : j < 115) (hk : kE G a j f = e) : hset (B G a C) (a + j) e = B G a (mset C j f) := by
  funext q
  by_cases hq : q = a + j
  · subst hq
    rw [hset_s, B_at hj (e := e) (by rw [mset_s]; exact hk)]
  · rw [hset_n hq]
    unfold B
    by_cases h1 : a ≤ q ∧ q < a + 115
    · rw [if_pos h1, if_pos h1, mset_n (by omega)]
    · rw [if_neg h1, if_neg h1]
def StK (G : GT) (a s : Nat) : Prop := s + 15 ≤ 115 ∧ ∀ (i : Nat) (f : Nat → Int32), i < 15 → kE G a (s + i) f = stE G a s i f
def ShK (G : GT) (a q W N : Nat) : Prop := q + 6 ≤ 115 ∧ W * N ≤ 400 ∧ (∀ f, kE G a q f = shE G a q W f) ∧ (∀ f, kE G a (q + 1) f = iA G (W * N) f) ∧ (∀ f, kE G a (q + 2) f = iA G (W * N) f) ∧ (∀ f, kE G a (q + 3) f = iA G (W * N) f) ∧ (∀ f, kE G a (q + 4) f = iA G N f) ∧ (∀ f, kE G a (q + 5) f = iA G N f) ∧ 0 < N ∧ 0 < W
def RoK (G : GT) (a q : Nat) : Prop := q + 2 ≤ 115 ∧ (∀ f, kE G a q f = .inr (2, [.ref (a + (q + 1)), .int (f 0)])) ∧ (∀ f, kE G a (q + 1) f = iA G 30 f)
theorem StK.sh3 {G : GT} {a s : Nat} (h : StK G a s) : ShK G a (s + 3) 12 6 := by
  refine ⟨by have := h.1; omega, by decide, fun f => ?_, fun f => ?_, fun f => ?_, fun f => ?_, fun f => ?_, fun f => ?_, by decide, by decide⟩
  · rw [h.2 3 f (by decide)]; rfl
  · rw [Nat.add_assoc, h.2 4 f (by decide)]; rfl
  · rw [Nat.add_assoc, h.2 5 f (by decide)]; rfl
  · rw [Nat.add_assoc, h.2 6 f (by decide)]; rfl
  · rw [Nat.add_assoc, h.2 7 f (by decide)]; rfl
  · rw [Nat.add_assoc, h.2 8 f (by decide)]; rfl
theorem StK.sh9 {G : GT} {a s : Nat} (h : StK G a s) : ShK G a (s + 9) 12 6 := by
  refine ⟨by have := h.1; omega, by decide, fun f => ?_, fun f => ?_, fun f => ?_, fun f => ?_, fun f => ?_, fun f => ?_, by decide, by decide⟩
  · rw [h.2 9 f (by decide)]; rfl
  · rw [Nat.add_assoc, h.2 10 f (by decide)]; rfl
  · rw [Nat.add_assoc, h.2 11 f (by decide)]; rfl
  · rw [Nat.add_assoc, h.2 12 f (by decide)]; rfl
  · rw [Nat.add_assoc, h.2 13 f (by decide)]; rfl
  · rw [Nat.add_assoc, h.2 14 f (by decide)]; rfl
theorem StK.ro {G : GT} {a s : Nat} (h : StK G a s) : RoK G a (s + 1) := by
  refine ⟨by have := h.1; omega, fun f => ?_, fun f => ?_⟩
  · rw [h.2 1 f (by decide)]; rfl
  · rw [Nat.add_assoc, h.2 2 f (by decide)]; rfl
theorem StK.o {G : GT} {a s : Nat} (h : StK G a s) (f : Nat → Int32) : kE G a s f = .inr (4, [.ref (a + (s + 1)), .ref (a + (s + 3)), .ref (a + (s + 9)), .int (f 0), .int (f 1), .int (f 2), .int (f 3), .int (f 4)]) := h.2 0 f (by decide)
theorem StK_of {G : GT} {a s : Nat} (h1 : s + 15 ≤ 115) (h2 : ∀ (i : Nat), i < 15 → ∀ f : Nat → Int32, kE G a (s + i) f = stE G a s i f) : StK G a s := ⟨h1, fun i f hi => h2 i hi f⟩
theorem lt15 {P : Nat → Prop} (h0 : P 0) (h1 : P 1) (h2 : P 2) (h3 : P 3) (h4 : P 4) (h5 : P 5) (h6 : P 6) (h7 : P 7) (h8 : P 8) (h9 : P 9) (h10 : P 10) (h11 : P 11) (h12 : P 12) (h13 : P 13) (h14 : P 14) : ∀ i, i < 15 → P i := by
  intro i hi
  match i, hi with
  | 0, _ => exact h0
  | 1, _ => exact h1
  | 2, _ => exact h2
  | 3, _ => exact h3
  | 4, _ => exact h4
  | 5, _ => exact h5
  | 6, _ => exact h6
  | 7, _ => exact h7
  | 8, _ => exact h8
  | 9, _ => exact h9
  | 10, _ => exact h10
  | 11, _ => exact h11
  | 12, _ => exact h12
  | 13, _ => exact h13
  | 14, _ => exact h14
  | n + 15, h => exact absurd h (by omega)
theorem stk1 {G : GT} {a : Nat} : StK G a 1 := StK_of (by decide) (lt15 (fun _ => rfl) (fun _ => rfl) (fun _ => rfl) (fun _ => rfl) (fun _ => rfl) (fun _ => rfl) (fun _ => rfl) (fun _ => rfl) (fun _ => rfl) (fun _ => rfl) (fun _ => rfl) (fun _ => rfl) (fun _ => rfl) (fun _ => rfl) (fun _ => rfl))
theorem stk18 {G : GT} {a : Nat} : StK G a 18 := StK_of (by decide) (lt15 (fun _ => rfl) (fun _ => rfl) (fun _ => rfl) (fun _ => rfl) (fun _ => rfl) (fun _ => rfl) (fun _ => rfl) (fun _ => rfl) (fun _ => rfl) (fun _ => rfl) (fun _ => rfl) (fun _ => rfl) (fun _ => rfl) (fun _ => rfl) (fun _ => rfl))
theorem stk33 {G : GT} {a : Nat} : StK G a 33 := StK_of (by decide) (lt15 (fun _ => rfl) (fun _ => rfl) (fun _ => rfl) (fun _ => rfl) (fun _ => rfl) (fun _ => rfl) (fun _ => rfl) (fun _ => rfl) (fun _ => rfl) (fun _ => rfl) (fun _ => rfl) (fun _ => rfl) (fun _ => rfl) (fun _ => rfl) (fun _ => rfl))
theorem stk48 {G : GT} {a : Nat} : StK G a 48 := StK_of (by decide) (lt15 (fun _ => rfl) (fun _ => rfl) (fun _ => rfl) (fun _ => rfl) (fun _ => rfl) (fun _ => rfl) (fun _ => rfl) (fun _ => rfl) (fun _ => rfl) (fun _ => rfl) (fun _ => rfl) (fun _ => rfl) (fun _ => rfl) (fun _ => rfl) (fun _ => rfl))
theorem stk63 {G : GT} {a : Nat} : StK G a 63 := StK_of (by decide) (lt15 (fun _ => rfl) (fun _ => rfl) (fun _ => rfl) (fun _ => rfl) (fun _ => rfl) (fun _ => rfl) (fun _ => rfl) (fun _ => rfl) (fun _ => rfl) (fun _ => rfl) (fun _ => rfl) (fun _ => rfl) (fun _ => rfl) (fun _ => rfl) (fun _ => rfl))
theorem stk78 {G : GT} {a : Nat} : StK G a 78 := StK_of (by decide) (lt15 (fun _ => rfl) (fun _ => rfl) (fun _ => rfl) (fun _ => rfl) (fun _ => rfl) (fun _ => rfl) (fun _ => rfl) (fun _ => rfl) (fun _ => rfl) (fun _ => rfl) (fun _ => rfl) (fun _ => rfl) (fun _ => rfl) (fun _ => rfl) (fun _ => rfl))
theorem shkT {G : GT} {a : Nat} : ShK G a 95 20 20 := ⟨by decide, by decide, fun _ => rfl, fun _ => rfl, fun _ => rfl, fun _ => rfl, fun _ => rfl, fun _ => rfl, by decide, by decide⟩
theorem rokR {G : GT} {a : Nat} : RoK G a 102 := ⟨by decide, fun _ => rfl, fun _ => rfl⟩
def Rw (G : GT) (a : Nat) (v : Value) (C : CT) : Option Value → Hp → Prop := fun r h' => r = some v ∧ h' = B G a C
def Rwu (G : GT) (a : Nat) (C : CT) : Option Value → Hp → Prop := fun r h' => r = none ∧ h' = B G a C
theorem Rw_i {G : GT} {a : Nat} {x y : Int32} {C C' : CT} (e : x = y) (e2 : C = C') : Rw G a (.int y) C' (some (.int x)) (B G a C) := ⟨by rw [e], by rw [e2]⟩
theorem Rwu_i {G : GT} {a : Nat} {C C' : CT} (e2 : C = C') : Rwu G a C' none (B G a C) := ⟨rfl, by rw [e2]⟩
/-! numbers as nI -/
theorem nadd {x y : Int32} {m n : Nat} (hx : x = nI m) (hy : y = nI n) : x + y = nI (m + n) := by rw [hx, hy, nI_add]
theorem nmul {x y : Int32} {m n : Nat} (hx : x = nI m) (hy : y = nI n) : x * y = nI (m * n) := by rw [hx, hy, pk_mul]
theorem nsub {x y : Int32} {m n : Nat} (hx : x = nI m) (hy : y = nI n) (h : n ≤ m) : x - y = nI (m - n) := by rw [hx, hy, pk_sub h]
theorem nI_cl {n : Nat} (h : n < 2147483648) : (nI n).toNatClampNeg = n := nI_clamp h
theorem nle {a b : Nat} (ha : a < 2147483648) (hb : b < 2147483648) : nI a ≤ nI b ↔ a ≤ b := nI_leI ha hb
theorem nlt {a b : Nat} (ha : a < 2147483648) (hb : b < 2147483648) : nI a < nI b ↔ a < b := nI_ltI ha hb
theorem neq {a b : Nat} (ha : a < 2147483648) (hb : b < 2147483648) : nI a = nI b ↔ a = b := nI_eq ha hb
theorem cle {x y : Int32} {m n : Nat} (hx : x = nI m) (hy : y = nI n) (hm : m < 2147483648) (hn : n < 2147483648) : x ≤ y ↔ m ≤ n := by rw [hx, hy]; exact nle hm hn
theorem clt {x y : Int32} {m n : Nat} (hx : x = nI m) (hy : y = nI n) (hm : m < 2147483648) (hn : n < 2147483648) : x < y ↔ m < n := by rw [hx, hy]; exact nlt hm hn
theorem ceq {x y : Int32} {m n : Nat} (hx : x = nI m) (hy : y = nI n) (hm : m < 2147483648) (hn : n < 2147483648) : x = y ↔ m = n := by rw [hx, hy]; exact neq hm hn
theorem nlit {n : Nat} : (OfNat.ofNat n : Int32) = nI (OfNat.ofNat n) := rfl
theorem ninc (n : Nat) : nI n + Int32.ofInt 1 = nI (n + 1) := nI_1 n
section ROWS4
variable {G : GT} {l : Launch} {own mn : String} {cc : ByteArray} {mL : Nat} {ret : Option FieldType} {R : Room} {E : ET} {Qc : QT} {sz k n pc nx tg : Nat} {L : List (Option Value)} {st : List Value} {a : Nat} {C : CT}
theorem V_bget {j idx ci i : Nat} {ty : FieldType} {fin : Bool} {fs : List Value} {v : Value} (hd : Dc cc pc (.getfield idx) 3 nx) (hf : FL own idx ci i ty fin) (hj : j < 115) (hk : kE G a j (C j) = .inr (ci, fs)) (hv : fs[i]? = some v)
    (kk : V G l own mn cc mL ret R E Qc sz k n nx L (v :: st) (B G a C)) : V G l own mn cc mL ret R E Qc sz k n pc L (.ref (a + j) :: st) (B G a C) := V_get hd hf (B_at hj hk) hv kk
theorem V_bput {j idx ci i : Nat} {ty : FieldType} {fs : List Value} {v : Value} {f : Nat → Int32} (hd : Dc cc pc (.putfield idx) 3 nx) (hf : FL own idx ci i ty false) (hj : j < 115) (hk : kE G a j (C j) = .inr (ci, fs)) (hn : narrow ty v = v) (hfit : fits ty v = true) (hi : i < fs.length) (hs : kE G a j f = .inr (ci, fs.set i v))
    (kk : V G l own mn cc mL ret R E Qc sz k n nx L st (B G a (mset C j f))) : V G l own mn cc mL ret R E Qc sz k n pc L (v :: .ref (a + j) :: st) (B G a C) :=
  V_put hd hf (B_at hj hk) hn hfit hi rfl (by rw [B_set hj hs]; exact kk)
theorem V_bputi {j idx ci i i0 : Nat} {ty : FieldType} {fs : List Value} {x : Int32} (hd : Dc cc pc (.putfield idx) 3 nx) (hf : FL own idx ci i ty false) (hj : j < 115) (hk : kE G a j (C j) = .inr (ci, fs)) (hn : narrow ty (.int x) = .int x) (hfit : fits ty (.int x) = true) (hi : i < fs.length) (hs : kE G a j (upd (C j) i0 x) = .inr (ci, fs.set i (.int x)))
    (kk : V G l own mn cc mL ret R E Qc sz k n nx L st (B G a (mset C j (upd (C j) i0 x)))) : V G l own mn cc mL ret R E Qc sz k n pc L (.int x :: .ref (a + j) :: st) (B G a C) := V_bput hd hf hj hk hn hfit hi hs kk
theorem V_balen {j N : Nat} {f : Nat → Int32} {v : Int32} (hd : Dc cc pc .arraylength 1 nx) (hj : j < 115) (hk : kE G a j (C j) = iA G N f) (hv : Int32.ofNat N = v)
    (kk : V G l own mn cc mL ret R E Qc sz k n nx L (.int v :: st) (B G a C)) : V G l own mn cc mL ret R E Qc sz k n pc L (.ref (a + j) :: st) (B G a C) := V_aleni hd (B_at hj hk) hv kk
theorem V_biald {j N m : Nat} {i v : Int32} (hd : Dc cc pc .iaload 1 nx) (hj : j < 115) (hk : kE G a j (C j) = iA G N (C j)) (hi : i = nI m) (hm : m < N) (hN : N < 2147483648) (hv : C j m = v)
    (kk : V G l own mn cc mL ret R E Qc sz k n nx L (.int v :: st) (B G a C)) : V G l own mn cc mL ret R E Qc sz k n pc L (.int i :: .ref (a + j) :: st) (B G a C) := by
  subst hi
  exact V_iald hd (B_at hj hk) (vp_in_nI hm (by omega)) (by rw [nI_cl (by omega)]; exact hv) kk
theorem V_bcald {j N m : Nat} {i v : Int32} (hd : Dc cc pc .caload 1 nx) (hj : j < 115) (hk : kE G a j (C j) = chA G N (C j)) (hi : i = nI m) (hm : m < N) (hN : N < 2147483648) (hv : C j m = v)
    (kk : V G l own mn cc mL ret R E Qc sz k n nx L (.int v :: st) (B G a C)) : V G l own mn cc mL ret R E Qc sz k n pc L (.int i :: .ref (a + j) :: st) (B G a C) := by
  subst hi
  exact V_cald hd (B_at hj hk) (vp_in_nI hm (by omega)) (by rw [nI_cl (by omega)]; exact hv) kk
theorem V_biast {j N m : Nat} {i x : Int32} (hd : Dc cc pc .iastore 1 nx) (hj : j < 115) (hk : ∀ f, kE G a j f = iA G N f) (hi : i = nI m) (hm : m < N) (hN : N < 2147483648)
    (kk : V G l own mn cc mL ret R E Qc sz k n nx L st (B G a (mset C j (upd (C j) m x)))) : V G l own mn cc mL ret R E Qc sz k n pc L (.int x :: .int i :: .ref (a + j) :: st) (B G a C) := by
  subst hi
  refine V_iast hd (B_at hj (hk _)) (vp_in_nI hm (by omega)) ?_
  rw [nI_cl (by omega), B_set hj (hk _)]
  exact kk
theorem V_bcast {j N m : Nat} {i x y : Int32} (hd : Dc cc pc .castore 1 nx) (hj : j < 115) (hk : ∀ f, kE G a j f = chA G N f) (hi : i = nI m) (hm : m < N) (hN : N < 2147483648) (hy : vp_nar .char x = y)
    (kk : V G l own mn cc mL ret R E Qc sz k n nx L st (B G a (mset C j (upd (C j) m y)))) : V G l own mn cc mL ret R E Qc sz k n pc L (.int x :: .int i :: .ref (a + j) :: st) (B G a C) := by
  subst hi
  refine V_cast hd (B_at hj (hk _)) (vp_in_nI hm (by omega)) ?_
  rw [nI_cl (by omega), hy, B_set hj (hk _)]
  exact kk
theorem V_callVw {y : MethodName} {yc : ByteArray} {ymL d' idx j ci : Nat} {yret : Option FieldType} {As rest stk fs : List Value} {v : Value} {C' : CT} (hd : Dc cc pc (.invokevirtual idx) 3 nx) (hk : LkV own idx y) (hy : Yk y yc ymL yret As.length) (hj : j < 115) (he : kE G a j (C j) = .inr (ci, fs)) (hci : (vwCl[ci]?).map (fun q => q.1) = some y.cls)
    (hm : Ct G l y yc ymL yret d' 0 0 (sz + k) (.ref (a + j) :: As) (B G a C) (Rw G a v C')) (hst : stk = As.reverse ++ .ref (a + j) :: rest) (h8 : (rest.map fun v => v.category).sum ≤ 8) (hR : d' + 1 ≤ R.frames ∧ 8 + (ymL + 11) + 31 * d' ≤ R.locals ∧ k + 0 ≤ R.cells ∧ n + 0 ≤ R.slots)
    (kk : V G l own mn cc mL ret R E Qc sz k n nx L (v :: rest) (B G a C')) : V G l own mn cc mL ret R E Qc sz k n pc L stk (B G a C) :=
  V_callV hd hk hy (B_at hj he) hci hm hst h8 hR (fun r h' q => by obtain ⟨rfl, rfl⟩ := q; exact kk)
theorem V_callVu {y : MethodName} {yc : ByteArray} {ymL d' idx j ci : Nat} {yret : Option FieldType} {As rest stk fs : List Value} {C' : CT} (hd : Dc cc pc (.invokevirtual idx) 3 nx) (hk : LkV own idx y) (hy : Yk y yc ymL yret As.length) (hj : j < 115) (he : kE G a j (C j) = .inr (ci, fs)) (hci : (vwCl[ci]?).map (fun q => q.1) = some y.cls)
    (hm : Ct G l y yc ymL yret d' 0 0 (sz + k) (.ref (a + j) :: As) (B G a C) (Rwu G a C')) (hst : stk = As.reverse ++ .ref (a + j) :: rest) (h8 : (rest.map fun v => v.category).sum ≤ 8) (hR : d' + 1 ≤ R.frames ∧ 8 + (ymL + 11) + 31 * d' ≤ R.locals ∧ k + 0 ≤ R.cells ∧ n + 0 ≤ R.slots)
    (kk : V G l own mn cc mL ret R E Qc sz k n nx L rest (B G a C')) : V G l own mn cc mL ret R E Qc sz k n pc L stk (B G a C) :=
  V_callV hd hk hy (B_at hj he) hci hm hst h8 hR (fun r h' q => by obtain ⟨rfl, rfl⟩ := q; exact kk)
theorem V_callSw {y : MethodName} {yc : ByteArray} {ymL d' idx : Nat} {yret : Option FieldType} {As rest stk : List Value} {v : Value} {C' : CT} (hd : Dc cc pc (.invokestatic idx) 3 nx) (hk : LkS own idx y) (hy : Yk y yc ymL yret As.length)
    (hm : Ct G l y yc ymL yret d' 0 0 (sz + k) As (B G a C) (Rw G a v C')) (hst : stk = As.reverse ++ rest) (h8 : (rest.map fun v => v.category).sum ≤ 8) (hR : d' + 1 ≤ R.frames ∧ 8 + (ymL + 11) + 31 * d' ≤ R.locals ∧ k + 0 ≤ R.cells ∧ n + 0 ≤ R.slots)
    (kk : V G l own mn cc mL ret R E Qc sz k n nx L (v :: rest) (B G a C')) : V G l own mn cc mL ret R E Qc sz k n pc L stk (B G a C) :=
  V_callS hd hk hy hm hst h8 hR (fun r h' q => by obtain ⟨rfl, rfl⟩ := q; exact kk)
theorem V_callSu {y : MethodName} {yc : ByteArray} {ymL d' idx : Nat} {yret : Option FieldType} {As rest stk : List Value} {C' : CT} (hd : Dc cc pc (.invokestatic idx) 3 nx) (hk : LkS own idx y) (hy : Yk y yc ymL yret As.length)
    (hm : Ct G l y yc ymL yret d' 0 0 (sz + k) As (B G a C) (Rwu G a C')) (hst : stk = As.reverse ++ rest) (h8 : (rest.map fun v => v.category).sum ≤ 8) (hR : d' + 1 ≤ R.frames ∧ 8 + (ymL + 11) + 31 * d' ≤ R.locals ∧ k + 0 ≤ R.cells ∧ n + 0 ≤ R.slots)
    (kk : V G l own mn cc mL ret R E Qc sz k n nx L rest (B G a C')) : V G l own mn cc mL ret R E Qc sz k n pc L stk (B G a C) :=
  V_callS hd hk hy hm hst h8 hR (fun r h' q => by obtain ⟨rfl, rfl⟩ := q; exact kk)
end ROWS4
end
section
/-! TryLoopsModel: its small methods. -/
abbrev isIx (x : Int32) (n : Nat) : Prop := 0 ≤ x.toInt ∧ x.toInt < (n : Int)
def gN (v : Int32) : Int32 := if v = 0 ∨ v = 3 ∨ v = 4 then 29 else 99
abbrev inR (v x : Int32) : Prop := 0 ≤ x ∧ x ≤ gN v
theorem inIx {x : Int32} {n : Nat} (hn : n < 2147483648) : bI (0 ≤ x ∧ x ≤ nI n - 1) = bI (isIx x n) := by
  have e : (0 ≤ x ∧ x ≤ nI n - 1) ↔ isIx x n := by
    unfold isIx
    cases n with
    | zero =>
      rw [i_le, i_le]
      have : (nI 0 - 1).toInt = -1 := by decide
      rw [this]
      have : (0 : Int32).toInt = 0 := rfl
      omega
    | succ n =>
      rw [nI_pred, i_le, i_le, nI_toInt (by omega)]
      have : (0 : Int32).toInt = 0 := rfl
      omega
  unfold bI
  by_cases h : isIx x n
  · rw [if_pos h, if_pos (e.mpr h)]
  · rw [if_neg h, if_neg (fun z => h (e.mp z))]
theorem cpy_0 {f g : Nat → Int32} {u v : Nat} : va_cpy f g u v 0 = g := by
  funext j; unfold va_cpy; rw [if_neg (by omega)]
theorem cpy_s {f g : Nat → Int32} {u v k : Nat} : upd (va_cpy f g u v k) (v + k) (f (u + k)) = va_cpy f g u v (k + 1) := by
  funext j
  unfold upd va_cpy
  by_cases h : j = v + k
  · subst h
    rw [if_pos rfl, if_pos (by omega)]
    congr 1
    omega
  · rw [if_neg h]
    by_cases h2 : v ≤ j ∧ j < v + k
    · rw [if_pos h2, if_pos (by omega)]
    · rw [if_neg h2, if_neg (by omega)]
section MODEL
variable {G : GT} {l : Launch} {sz a : Nat} {C : CT}
set_option maxHeartbeats 4000000 in
theorem tX7_in (v lo hi : Int32) {h : Hp} : Ct G l yX7_in cX7_in 3 (some .boolean) 0 0 0 sz [.int v, .int lo, .int hi] h (Rd (.int (bI (lo ≤ v ∧ v ≤ hi))) h) := by
  refine Ct.of (own := RX7) (mn := "in") (L0 := [some (.int v), some (.int lo), some (.int hi)]) (by decide +kernel) rfl rfl rfl (Nat.le_of_ble_eq_true rfl) rfl ?_
  refine V_iload_n dX7_in_0 rfl ?_
  refine V_iload_n dX7_in_1 rfl ?_
  refine V_icmp_lt dX7_in_2 (fun c2 => ?_) (fun c2 => ?_)
  · refine V_iconst (v := 0) dX7_in_14 (by decide) ?_
    refine V_zret dX7_in_15 rfl (by first | rfl | exact bI_nar) rfl rfl ?_
    exact Rd_i (bI_f (fun z => by rw [i_le, i_le] at z; rw [i_lt] at c2; omega)).symm
  · refine V_iload_n dX7_in_5 rfl ?_
    refine V_iload_n dX7_in_6 rfl ?_
    refine V_icmp_gt dX7_in_7 (fun c7 => ?_) (fun c7 => ?_)
    · refine V_iconst (v := 0) dX7_in_14 (by decide) ?_
      refine V_zret dX7_in_15 rfl (by first | rfl | exact bI_nar) rfl rfl ?_
      exact Rd_i (bI_f (fun z => by rw [i_le, i_le] at z; rw [i_lt] at c7; omega)).symm
    · refine V_iconst (v := 1) dX7_in_10 (by decide) ?_
      refine V_goto dX7_in_11 ?_
      refine V_zret dX7_in_15 rfl (by first | rfl | exact bI_nar) rfl rfl ?_
      exact Rd_i (bI_t (by rw [i_le, i_le]; rw [i_lt] at c2 c7; omega)).symm
set_option maxHeartbeats 4000000 in
theorem tX7_greatest (v : Int32) {h : Hp} : Ct G l yX7_greatest cX7_greatest 1 (some .int) 0 0 0 sz [.int v] h (Rd (.int (gN v)) h) := by
  refine Ct.of (own := RX7) (mn := "greatest") (L0 := [some (.int v)]) (by decide +kernel) rfl rfl rfl (Nat.le_of_ble_eq_true rfl) rfl ?_
  refine V_iload_n dX7_greatest_0 rfl ?_
  refine V_if_eq dX7_greatest_1 (fun c1 => ?_) (fun c1 => ?_)
  · refine V_bipush (v := 29) dX7_greatest_14 (by decide) ?_
    refine V_goto dX7_greatest_16 ?_
    refine V_iret dX7_greatest_21 rfl rfl rfl ?_
    exact Rd_i (by unfold gN; rw [if_pos (Or.inl c1)])
  · refine V_iload_n dX7_greatest_4 rfl ?_
    refine V_iconst (v := 3) dX7_greatest_5 (by decide) ?_
    refine V_icmp_eq dX7_greatest_6 (fun c6 => ?_) (fun c6 => ?_)
    · refine V_bipush (v := 29) dX7_greatest_14 (by decide) ?_
      refine V_goto dX7_greatest_16 ?_
      refine V_iret dX7_greatest_21 rfl rfl rfl ?_
      exact Rd_i (by unfold gN; rw [if_pos (Or.inr (Or.inl c6))])
    · refine V_iload_n dX7_greatest_9 rfl ?_
      refine V_iconst (v := 4) dX7_greatest_10 (by decide) ?_
      refine V_icmp_ne dX7_greatest_11 (fun c11 => ?_) (fun c11 => ?_)
      · refine V_bipush (v := 99) dX7_greatest_19 (by decide) ?_
        refine V_iret dX7_greatest_21 rfl rfl rfl ?_
        exact Rd_i (by unfold gN; rw [if_neg (by intro z; rcases z with z | z | z <;> contradiction)])
      · refine V_bipush (v := 29) dX7_greatest_14 (by decide) ?_
        refine V_goto dX7_greatest_16 ?_
        refine V_iret dX7_greatest_21 rfl rfl rfl ?_
        exact Rd_i (by unfold gN; rw [if_pos (Or.inr (Or.inr c11))])
set_option maxHeartbeats 4000000 in
theorem tX7_isTry {tc : Nat} (x : Int32) (h31 : C 106 31 = nI tc) (htc : tc < 1000) : Ct G l yX7_isTry cX7_isTry 2 (some .boolean) 1 0 0 sz [.ref (a + 105), .int x] (B G a C) (Rw G a (.int (bI (isIx x tc))) C) := by
  refine Ct.of (own := RX7) (mn := "isTry") (L0 := [some (.ref (a + 105)), some (.int x)]) (by decide +kernel) rfl rfl rfl (Nat.le_of_ble_eq_true rfl) rfl ?_
  refine V_iload_n dX7_isTry_0 rfl ?_
  refine V_iconst (v := 0) dX7_isTry_1 (by decide) ?_
  refine V_aload_n dX7_isTry_2 rfl ?_
  refine V_bget dX7_isTry_3 fX7_7 (by decide) rfl rfl ?_
  refine V_bipush (v := 31) dX7_isTry_6 (by decide) ?_
  refine V_biald dX7_isTry_8 (by decide) rfl (by repeat (first | with_reducible rfl | with_reducible exact nlit | assumption | with_reducible apply nadd | with_reducible apply nmul | with_reducible apply nsub | omega)) (by omega) (by first | decide | omega) rfl ?_
  rw [h31]
  refine V_iconst (v := 1) dX7_isTry_9 (by decide) ?_
  refine V_isub dX7_isTry_10 ?_
  refine V_callSw dX7_isTry_11 kX7_37 ykX7_in (tX7_in _ _ _) rfl (Nat.le_of_ble_eq_true rfl) ⟨by decide, by decide, by decide, by decide⟩ ?_
  refine V_zret dX7_isTry_14 rfl (by first | rfl | exact bI_nar) rfl rfl ?_
  exact Rw_i (inIx (by omega)) rfl
set_option maxHeartbeats 4000000 in
theorem tX7_isLoop {lc : Nat} (x : Int32) (h33 : C 106 33 = nI lc) (hlc : lc < 1000) : Ct G l yX7_isLoop cX7_isLoop 2 (some .boolean) 1 0 0 sz [.ref (a + 105), .int x] (B G a C) (Rw G a (.int (bI (isIx x lc))) C) := by
  refine Ct.of (own := RX7) (mn := "isLoop") (L0 := [some (.ref (a + 105)), some (.int x)]) (by decide +kernel) rfl rfl rfl (Nat.le_of_ble_eq_true rfl) rfl ?_
  refine V_iload_n dX7_isLoop_0 rfl ?_
  refine V_iconst (v := 0) dX7_isLoop_1 (by decide) ?_
  refine V_aload_n dX7_isLoop_2 rfl ?_
  refine V_bget dX7_isLoop_3 fX7_7 (by decide) rfl rfl ?_
  refine V_bipush (v := 33) dX7_isLoop_6 (by decide) ?_
  refine V_biald dX7_isLoop_8 (by decide) rfl (by repeat (first | with_reducible rfl | with_reducible exact nlit | assumption | with_reducible apply nadd | with_reducible apply nmul | with_reducible apply nsub | omega)) (by omega) (by first | decide | omega) rfl ?_
  rw [h33]
  refine V_iconst (v := 1) dX7_isLoop_9 (by decide) ?_
  refine V_isub dX7_isLoop_10 ?_
  refine V_callSw dX7_isLoop_11 kX7_37 ykX7_in (tX7_in _ _ _) rfl (Nat.le_of_ble_eq_true rfl) ⟨by decide, by decide, by decide, by decide⟩ ?_
  refine V_zret dX7_isLoop_14 rfl (by first | rfl | exact bI_nar) rfl rfl ?_
  exact Rw_i (inIx (by omega)) rfl
set_option maxHeartbeats 4000000 in
theorem tX7_sizeOf {n : Nat} (hn : n < 16) : Ct G l yX7_sizeOf cX7_sizeOf 2 (some .int) 0 0 0 sz [.ref (a + 105), .int (nI n)] (B G a C) (Rw G a (.int (C 106 (38 + 25 * n))) C) := by
  refine Ct.of (own := RX7) (mn := "sizeOf") (L0 := [some (.ref (a + 105)), some (.int (nI n))]) (by decide +kernel) rfl rfl rfl (Nat.le_of_ble_eq_true rfl) rfl ?_
  refine V_aload_n dX7_sizeOf_0 rfl ?_
  refine V_bget dX7_sizeOf_1 fX7_7 (by decide) rfl rfl ?_
  refine V_bipush (v := 38) dX7_sizeOf_4 (by decide) ?_
  refine V_bipush (v := 25) dX7_sizeOf_6 (by decide) ?_
  refine V_iload_n dX7_sizeOf_8 rfl ?_
  refine V_imul dX7_sizeOf_9 ?_
  refine V_iadd dX7_sizeOf_10 ?_
  refine V_biald dX7_sizeOf_11 (by decide) rfl (by repeat (first | with_reducible rfl | with_reducible exact nlit | assumption | with_reducible apply nadd | with_reducible apply nmul | with_reducible apply nsub | omega)) (by omega) (by first | decide | omega) rfl ?_
  refine V_iret dX7_sizeOf_12 rfl rfl rfl ?_
  exact Rw_i rfl rfl
set_option maxHeartbeats 4000000 in
theorem tX7_verbOf {n k : Nat} (hn : n < 15) (hk : k < 13) : Ct G l yX7_verbOf cX7_verbOf 3 (some .int) 0 0 0 sz [.ref (a + 105), .int (nI n), .int (nI k)] (B G a C) (Rw G a (.int (C 106 (38 + 25 * n + 1 + 2 * k))) C) := by
  refine Ct.of (own := RX7) (mn := "verbOf") (L0 := [some (.ref (a + 105)), some (.int (nI n)), some (.int (nI k))]) (by decide +kernel) rfl rfl rfl (Nat.le_of_ble_eq_true rfl) rfl ?_
  refine V_aload_n dX7_verbOf_0 rfl ?_
  refine V_bget dX7_verbOf_1 fX7_7 (by decide) rfl rfl ?_
  refine V_bipush (v := 38) dX7_verbOf_4 (by decide) ?_
  refine V_bipush (v := 25) dX7_verbOf_6 (by decide) ?_
  refine V_iload_n dX7_verbOf_8 rfl ?_
  refine V_imul dX7_verbOf_9 ?_
  refine V_iadd dX7_verbOf_10 ?_
  refine V_iconst (v := 1) dX7_verbOf_11 (by decide) ?_
  refine V_iadd dX7_verbOf_12 ?_
  refine V_iconst (v := 2) dX7_verbOf_13 (by decide) ?_
  refine V_iload_n dX7_verbOf_14 rfl ?_
  refine V_imul dX7_verbOf_15 ?_
  refine V_iadd dX7_verbOf_16 ?_
  refine V_biald dX7_verbOf_17 (by decide) rfl (by repeat (first | with_reducible rfl | with_reducible exact nlit | assumption | with_reducible apply nadd | with_reducible apply nmul | with_reducible apply nsub | omega)) (by omega) (by first | decide | omega) rfl ?_
  refine V_iret dX7_verbOf_18 rfl rfl rfl ?_
  exact Rw_i rfl rfl
set_option maxHeartbeats 4000000 in
theorem tX7_numberOf {n k : Nat} (hn : n < 15) (hk : k < 13) : Ct G l yX7_numberOf cX7_numberOf 3 (some .int) 0 0 0 sz [.ref (a + 105), .int (nI n), .int (nI k)] (B G a C) (Rw G a (.int (C 106 (38 + 25 * n + 2 + 2 * k))) C) := by
  refine Ct.of (own := RX7) (mn := "numberOf") (L0 := [some (.ref (a + 105)), some (.int (nI n)), some (.int (nI k))]) (by decide +kernel) rfl rfl rfl (Nat.le_of_ble_eq_true rfl) rfl ?_
  refine V_aload_n dX7_numberOf_0 rfl ?_
  refine V_bget dX7_numberOf_1 fX7_7 (by decide) rfl rfl ?_
  refine V_bipush (v := 38) dX7_numberOf_4 (by decide) ?_
  refine V_bipush (v := 25) dX7_numberOf_6 (by decide) ?_
  refine V_iload_n dX7_numberOf_8 rfl ?_
  refine V_imul dX7_numberOf_9 ?_
  refine V_iadd dX7_numberOf_10 ?_
  refine V_iconst (v := 2) dX7_numberOf_11 (by decide) ?_
  refine V_iadd dX7_numberOf_12 ?_
  refine V_iconst (v := 2) dX7_numberOf_13 (by decide) ?_
  refine V_iload_n dX7_numberOf_14 rfl ?_
  refine V_imul dX7_numberOf_15 ?_
  refine V_iadd dX7_numberOf_16 ?_
  refine V_biald dX7_numberOf_17 (by decide) rfl (by repeat (first | with_reducible rfl | with_reducible exact nlit | assumption | with_reducible apply nadd | with_reducible apply nmul | with_reducible apply nsub | omega)) (by omega) (by first | decide | omega) rfl ?_
  refine V_iret dX7_numberOf_18 rfl rfl rfl ?_
  exact Rw_i rfl rfl
set_option maxHeartbeats 4000000 in
theorem tX7_copyState {p q u v np nq : Nat} (hp : p < 115) (hq : q < 115) (kp : ∀ f, kE G a p f = iA G np f) (kq : ∀ f, kE G a q f = iA G nq f) (hpq : p ≠ q) (hu : u + 441 ≤ np) (hv : v + 441 ≤ nq) (hnp : np < 3000) (hnq : nq < 3000) : Ct G l yX7_copyState cX7_copyState 5 none 0 0 0 sz [.ref (a + p), .int (nI u), .ref (a + q), .int (nI v)] (B G a C) (Rwu G a (mset C q (va_cpy (C p) (C q) u v 441))) := by
  refine Ct.of (own := RX7) (mn := "copyState") (L0 := [some (.ref (a + p)), some (.int (nI u)), some (.ref (a + q)), some (.int (nI v)), none]) (by decide +kernel) rfl rfl rfl (Nat.le_of_ble_eq_true rfl) rfl ?_
  have key : ∀ (n k : Nat), k + n = 441 → V G l RX7 "copyState" cX7_copyState 5 none (rmd 0 0 0) E0 (Qm G (Rwu G a (mset C q (va_cpy (C p) (C q) u v 441))) sz 0 0) sz 0 0 3 [some (.ref (a + p)), some (.int (nI u)), some (.ref (a + q)), some (.int (nI v)), some (.int (nI k))] [] (B G a (mset C q (va_cpy (C p) (C q) u v k))) := by
    intro n
    induction n with
    | zero =>
      intro k hk
      obtain rfl : k = 441 := by omega
      refine V_iload dX7_copyState_3 rfl ?_
      refine V_sipush (v := 441) dX7_copyState_5 (by decide) ?_
      refine V_icmp_ge dX7_copyState_8 (fun _ => ?_) (fun z => absurd ((cle (by repeat (first | with_reducible rfl | with_reducible exact nlit | assumption | with_reducible apply nadd | with_reducible apply nmul | with_reducible apply nsub | omega)) (by repeat (first | with_reducible rfl | with_reducible exact nlit | assumption | with_reducible apply nadd | with_reducible apply nmul | with_reducible apply nsub | omega)) (by omega) (by omega)).mpr (by omega)) z)
      refine V_vret dX7_copyState_29 rfl rfl rfl ?_
      exact Rwu_i rfl
    | succ n ih =>
      intro k hk
      refine V_iload dX7_copyState_3 rfl ?_
      refine V_sipush (v := 441) dX7_copyState_5 (by decide) ?_
      refine V_icmp_ge dX7_copyState_8 (fun z => absurd z (fun z => absurd ((cle (by repeat (first | with_reducible rfl | with_reducible exact nlit | assumption | with_reducible apply nadd | with_reducible apply nmul | with_reducible apply nsub | omega)) (by repeat (first | with_reducible rfl | with_reducible exact nlit | assumption | with_reducible apply nadd | with_reducible apply nmul | with_reducible apply nsub | omega)) (by omega) (by omega)).mp z) (by omega))) (fun _ => ?_)
      refine V_aload_n dX7_copyState_11 rfl ?_
      refine V_iload_n dX7_copyState_12 rfl ?_
      refine V_iload dX7_copyState_13 rfl ?_
      refine V_iadd dX7_copyState_15 ?_
      refine V_aload_n dX7_copyState_16 rfl ?_
      refine V_iload_n dX7_copyState_17 rfl ?_
      refine V_iload dX7_copyState_18 rfl ?_
      refine V_iadd dX7_copyState_20 ?_
      refine V_biald dX7_copyState_21 hp (kp _) (by repeat (first | with_reducible rfl | with_reducible exact nlit | assumption | with_reducible apply nadd | with_reducible apply nmul | with_reducible apply nsub | omega)) (by omega) (by first | decide | omega) rfl ?_
      refine V_biast dX7_copyState_22 hq kq (by repeat (first | with_reducible rfl | with_reducible exact nlit | assumption | with_reducible apply nadd | with_reducible apply nmul | with_reducible apply nsub | omega)) (by omega) (by first | decide | omega) ?_
      refine V_iinc dX7_copyState_23 rfl (ninc _) (by decide) (by dsimp only [List.set] <;> rfl) ?_
      refine V_goto dX7_copyState_26 ?_
      rw [mset_s, mset_ss, mset_n hpq, cpy_s]
      exact ih (k + 1) (by omega)
  refine V_iconst (v := 0) dX7_copyState_0 (by decide) ?_
  refine V_istore dX7_copyState_1 (by decide) (by dsimp only [List.set] <;> rfl) ?_
  have h0 := key 441 0 rfl
  rw [cpy_0, mset_eta] at h0
  exact h0
end MODEL
end
