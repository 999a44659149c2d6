section
-- ===== PART A: goes FIRST, ahead of the names: the tables' words, and 'selects' of the private methods out of them =====
/-- a private method of a class that the tables say can be made, by its rows of tables_1 -/
def lw_okq (q : MethodName × Nat) : Prop := (q.1.cls ≠ "java/lang/invoke/MethodHandle" ∧ q.1.cls ≠ "java/lang/invoke/VarHandle") ∧ Cond.instantiable q.1.cls q.2 ∈ tables_1 ∧ Cond.privateMethod q.1 ∈ tables_1 ∧ Cond.instanceMethod q.1 ∈ tables_1
theorem lw_p0 : lw_okq (⟨"TryLoops$History", "dropOldest", "()V"⟩, 2) := ⟨⟨by decide +kernel, by decide +kernel⟩, List.mem_of_getElem? (i := 113) (by decide +kernel), List.mem_of_getElem? (i := 228) (by decide +kernel), List.mem_of_getElem? (i := 229) (by decide +kernel)⟩
theorem lw_p1 : lw_okq (⟨"TryLoops$Row", "put", "(II)V"⟩, 2) := ⟨⟨by decide +kernel, by decide +kernel⟩, List.mem_of_getElem? (i := 31) (by decide +kernel), List.mem_of_getElem? (i := 270) (by decide +kernel), List.mem_of_getElem? (i := 271) (by decide +kernel)⟩
theorem lw_p2 : lw_okq (⟨"TryLoops$Shelf", "hasPlace", "(I)Z"⟩, 7) := ⟨⟨by decide +kernel, by decide +kernel⟩, List.mem_of_getElem? (i := 46) (by decide +kernel), List.mem_of_getElem? (i := 279) (by decide +kernel), List.mem_of_getElem? (i := 280) (by decide +kernel)⟩
theorem lw_p3 : lw_okq (⟨"TryLoops", "canGeneralise", "(II)Z"⟩, 8) := ⟨⟨by decide +kernel, by decide +kernel⟩, List.mem_of_getElem? (i := 17) (by decide +kernel), List.mem_of_getElem? (i := 330) (by decide +kernel), List.mem_of_getElem? (i := 331) (by decide +kernel)⟩
theorem lw_p4 : lw_okq (⟨"TryLoops$Shelf", "look", "([III)I"⟩, 7) := ⟨⟨by decide +kernel, by decide +kernel⟩, List.mem_of_getElem? (i := 46) (by decide +kernel), List.mem_of_getElem? (i := 342) (by decide +kernel), List.mem_of_getElem? (i := 343) (by decide +kernel)⟩
theorem lw_p5 : lw_okq (⟨"TryLoops", "makeLoop", "(IIIII)I"⟩, 8) := ⟨⟨by decide +kernel, by decide +kernel⟩, List.mem_of_getElem? (i := 17) (by decide +kernel), List.mem_of_getElem? (i := 347) (by decide +kernel), List.mem_of_getElem? (i := 348) (by decide +kernel)⟩
theorem lw_p6 : lw_okq (⟨"TryLoops", "leastPeriod", "(I)I"⟩, 8) := ⟨⟨by decide +kernel, by decide +kernel⟩, List.mem_of_getElem? (i := 17) (by decide +kernel), List.mem_of_getElem? (i := 360) (by decide +kernel), List.mem_of_getElem? (i := 361) (by decide +kernel)⟩
theorem lw_p7 : lw_okq (⟨"TryLoops", "repeatsBy", "(II)Z"⟩, 8) := ⟨⟨by decide +kernel, by decide +kernel⟩, List.mem_of_getElem? (i := 17) (by decide +kernel), List.mem_of_getElem? (i := 364) (by decide +kernel), List.mem_of_getElem? (i := 365) (by decide +kernel)⟩
theorem lw_p8 : lw_okq (⟨"TryLoops", "riseAt", "(III)I"⟩, 8) := ⟨⟨by decide +kernel, by decide +kernel⟩, List.mem_of_getElem? (i := 17) (by decide +kernel), List.mem_of_getElem? (i := 368) (by decide +kernel), List.mem_of_getElem? (i := 369) (by decide +kernel)⟩
theorem lw_p9 : lw_okq (⟨"TryLoops$Text", "readItem", "()Z"⟩, 4) := ⟨⟨by decide +kernel, by decide +kernel⟩, List.mem_of_getElem? (i := 130) (by decide +kernel), List.mem_of_getElem? (i := 446) (by decide +kernel), List.mem_of_getElem? (i := 447) (by decide +kernel)⟩
theorem lw_p10 : lw_okq (⟨"TryLoops$Text", "next", "()C"⟩, 4) := ⟨⟨by decide +kernel, by decide +kernel⟩, List.mem_of_getElem? (i := 130) (by decide +kernel), List.mem_of_getElem? (i := 451) (by decide +kernel), List.mem_of_getElem? (i := 452) (by decide +kernel)⟩
theorem lw_p11 : lw_okq (⟨"TryLoops$Text", "readStep", "(Z)Z"⟩, 4) := ⟨⟨by decide +kernel, by decide +kernel⟩, List.mem_of_getElem? (i := 130) (by decide +kernel), List.mem_of_getElem? (i := 458) (by decide +kernel), List.mem_of_getElem? (i := 459) (by decide +kernel)⟩
theorem lw_p12 : lw_okq (⟨"TryLoops$Text", "readNumber", "(II)I"⟩, 4) := ⟨⟨by decide +kernel, by decide +kernel⟩, List.mem_of_getElem? (i := 130) (by decide +kernel), List.mem_of_getElem? (i := 546) (by decide +kernel), List.mem_of_getElem? (i := 547) (by decide +kernel)⟩
theorem lw_p13 : lw_okq (⟨"TryLoops$Text", "readBody", "()Z"⟩, 4) := ⟨⟨by decide +kernel, by decide +kernel⟩, List.mem_of_getElem? (i := 130) (by decide +kernel), List.mem_of_getElem? (i := 551) (by decide +kernel), List.mem_of_getElem? (i := 552) (by decide +kernel)⟩
theorem lw_p14 : lw_okq (⟨"TryLoops$Text", "take", "(C)Z"⟩, 4) := ⟨⟨by decide +kernel, by decide +kernel⟩, List.mem_of_getElem? (i := 130) (by decide +kernel), List.mem_of_getElem? (i := 555) (by decide +kernel), List.mem_of_getElem? (i := 556) (by decide +kernel)⟩
theorem lw_p15 : lw_okq (⟨"TryLoops", "countVerbRows", "()I"⟩, 8) := ⟨⟨by decide +kernel, by decide +kernel⟩, List.mem_of_getElem? (i := 17) (by decide +kernel), List.mem_of_getElem? (i := 612) (by decide +kernel), List.mem_of_getElem? (i := 613) (by decide +kernel)⟩
def lw_privs_1 : List (MethodName × Nat) := [(⟨"TryLoops$History", "dropOldest", "()V"⟩, 2), (⟨"TryLoops$Row", "put", "(II)V"⟩, 2), (⟨"TryLoops$Shelf", "hasPlace", "(I)Z"⟩, 7), (⟨"TryLoops", "canGeneralise", "(II)Z"⟩, 8), (⟨"TryLoops$Shelf", "look", "([III)I"⟩, 7), (⟨"TryLoops", "makeLoop", "(IIIII)I"⟩, 8), (⟨"TryLoops", "leastPeriod", "(I)I"⟩, 8), (⟨"TryLoops", "repeatsBy", "(II)Z"⟩, 8), (⟨"TryLoops", "riseAt", "(III)I"⟩, 8), (⟨"TryLoops$Text", "readItem", "()Z"⟩, 4), (⟨"TryLoops$Text", "next", "()C"⟩, 4), (⟨"TryLoops$Text", "readStep", "(Z)Z"⟩, 4), (⟨"TryLoops$Text", "readNumber", "(II)I"⟩, 4), (⟨"TryLoops$Text", "readBody", "()Z"⟩, 4), (⟨"TryLoops$Text", "take", "(C)Z"⟩, 4), (⟨"TryLoops", "countVerbRows", "()I"⟩, 8)]
theorem lw_r1 : ∀ q ∈ lw_privs_1, lw_okq q := List.forall_mem_cons.mpr ⟨lw_p0, List.forall_mem_cons.mpr ⟨lw_p1, List.forall_mem_cons.mpr ⟨lw_p2, List.forall_mem_cons.mpr ⟨lw_p3, List.forall_mem_cons.mpr ⟨lw_p4, List.forall_mem_cons.mpr ⟨lw_p5, List.forall_mem_cons.mpr ⟨lw_p6, List.forall_mem_cons.mpr ⟨lw_p7, List.forall_mem_cons.mpr ⟨lw_p8, List.forall_mem_cons.mpr ⟨lw_p9, List.forall_mem_cons.mpr ⟨lw_p10, List.forall_mem_cons.mpr ⟨lw_p11, List.forall_mem_cons.mpr ⟨lw_p12, List.forall_mem_cons.mpr ⟨lw_p13, List.forall_mem_cons.mpr ⟨lw_p14, List.forall_mem_cons.mpr ⟨lw_p15, fun _ h => absurd h List.not_mem_nil⟩⟩⟩⟩⟩⟩⟩⟩⟩⟩⟩⟩⟩⟩⟩⟩
theorem lw_p16 : lw_okq (⟨"TryLoops", "countCommon", "(IIZ)I"⟩, 8) := ⟨⟨by decide +kernel, by decide +kernel⟩, List.mem_of_getElem? (i := 17) (by decide +kernel), List.mem_of_getElem? (i := 620) (by decide +kernel), List.mem_of_getElem? (i := 621) (by decide +kernel)⟩
theorem lw_p17 : lw_okq (⟨"TryLoops", "areAlike", "(IIIIZ)Z"⟩, 8) := ⟨⟨by decide +kernel, by decide +kernel⟩, List.mem_of_getElem? (i := 17) (by decide +kernel), List.mem_of_getElem? (i := 624) (by decide +kernel), List.mem_of_getElem? (i := 625) (by decide +kernel)⟩
theorem lw_p18 : lw_okq (⟨"TryLoops", "countZeroStrides", "(II)I"⟩, 8) := ⟨⟨by decide +kernel, by decide +kernel⟩, List.mem_of_getElem? (i := 17) (by decide +kernel), List.mem_of_getElem? (i := 633) (by decide +kernel), List.mem_of_getElem? (i := 634) (by decide +kernel)⟩
theorem lw_p19 : lw_okq (⟨"TryLoops", "isTurn", "(IIII)Z"⟩, 8) := ⟨⟨by decide +kernel, by decide +kernel⟩, List.mem_of_getElem? (i := 17) (by decide +kernel), List.mem_of_getElem? (i := 641) (by decide +kernel), List.mem_of_getElem? (i := 642) (by decide +kernel)⟩
theorem lw_p20 : lw_okq (⟨"TryLoops", "turnsInRange", "(II)I"⟩, 8) := ⟨⟨by decide +kernel, by decide +kernel⟩, List.mem_of_getElem? (i := 17) (by decide +kernel), List.mem_of_getElem? (i := 649) (by decide +kernel), List.mem_of_getElem? (i := 650) (by decide +kernel)⟩
theorem lw_p21 : lw_okq (⟨"TryLoopsModel", "save", "()V"⟩, 14) := ⟨⟨by decide +kernel, by decide +kernel⟩, List.mem_of_getElem? (i := 665) (by decide +kernel), List.mem_of_getElem? (i := 729) (by decide +kernel), List.mem_of_getElem? (i := 730) (by decide +kernel)⟩
theorem lw_p22 : lw_okq (⟨"TryLoopsModel", "sizeOf", "(I)I"⟩, 14) := ⟨⟨by decide +kernel, by decide +kernel⟩, List.mem_of_getElem? (i := 665) (by decide +kernel), List.mem_of_getElem? (i := 743) (by decide +kernel), List.mem_of_getElem? (i := 744) (by decide +kernel)⟩
theorem lw_p23 : lw_okq (⟨"TryLoopsModel", "doStep", "(II)Z"⟩, 14) := ⟨⟨by decide +kernel, by decide +kernel⟩, List.mem_of_getElem? (i := 665) (by decide +kernel), List.mem_of_getElem? (i := 747) (by decide +kernel), List.mem_of_getElem? (i := 748) (by decide +kernel)⟩
theorem lw_p24 : lw_okq (⟨"TryLoopsModel", "isTry", "(I)Z"⟩, 14) := ⟨⟨by decide +kernel, by decide +kernel⟩, List.mem_of_getElem? (i := 665) (by decide +kernel), List.mem_of_getElem? (i := 763) (by decide +kernel), List.mem_of_getElem? (i := 764) (by decide +kernel)⟩
theorem lw_p25 : lw_okq (⟨"TryLoopsModel", "areLike", "(II)Z"⟩, 14) := ⟨⟨by decide +kernel, by decide +kernel⟩, List.mem_of_getElem? (i := 665) (by decide +kernel), List.mem_of_getElem? (i := 771) (by decide +kernel), List.mem_of_getElem? (i := 772) (by decide +kernel)⟩
theorem lw_p26 : lw_okq (⟨"TryLoopsModel", "verbOf", "(II)I"⟩, 14) := ⟨⟨by decide +kernel, by decide +kernel⟩, List.mem_of_getElem? (i := 665) (by decide +kernel), List.mem_of_getElem? (i := 775) (by decide +kernel), List.mem_of_getElem? (i := 776) (by decide +kernel)⟩
theorem lw_p27 : lw_okq (⟨"TryLoopsModel", "newLoop", "(III)I"⟩, 14) := ⟨⟨by decide +kernel, by decide +kernel⟩, List.mem_of_getElem? (i := 665) (by decide +kernel), List.mem_of_getElem? (i := 779) (by decide +kernel), List.mem_of_getElem? (i := 780) (by decide +kernel)⟩
theorem lw_p28 : lw_okq (⟨"TryLoopsModel", "numberOf", "(II)I"⟩, 14) := ⟨⟨by decide +kernel, by decide +kernel⟩, List.mem_of_getElem? (i := 665) (by decide +kernel), List.mem_of_getElem? (i := 783) (by decide +kernel), List.mem_of_getElem? (i := 784) (by decide +kernel)⟩
theorem lw_p29 : lw_okq (⟨"TryLoopsModel", "stride", "(III)V"⟩, 14) := ⟨⟨by decide +kernel, by decide +kernel⟩, List.mem_of_getElem? (i := 665) (by decide +kernel), List.mem_of_getElem? (i := 787) (by decide +kernel), List.mem_of_getElem? (i := 788) (by decide +kernel)⟩
theorem lw_p30 : lw_okq (⟨"TryLoopsModel", "canFold", "(II)Z"⟩, 14) := ⟨⟨by decide +kernel, by decide +kernel⟩, List.mem_of_getElem? (i := 665) (by decide +kernel), List.mem_of_getElem? (i := 795) (by decide +kernel), List.mem_of_getElem? (i := 796) (by decide +kernel)⟩
theorem lw_p31 : lw_okq (⟨"TryLoopsModel", "isLoop", "(I)Z"⟩, 14) := ⟨⟨by decide +kernel, by decide +kernel⟩, List.mem_of_getElem? (i := 665) (by decide +kernel), List.mem_of_getElem? (i := 803) (by decide +kernel), List.mem_of_getElem? (i := 804) (by decide +kernel)⟩
def lw_privs_2 : List (MethodName × Nat) := [(⟨"TryLoops", "countCommon", "(IIZ)I"⟩, 8), (⟨"TryLoops", "areAlike", "(IIIIZ)Z"⟩, 8), (⟨"TryLoops", "countZeroStrides", "(II)I"⟩, 8), (⟨"TryLoops", "isTurn", "(IIII)Z"⟩, 8), (⟨"TryLoops", "turnsInRange", "(II)I"⟩, 8), (⟨"TryLoopsModel", "save", "()V"⟩, 14), (⟨"TryLoopsModel", "sizeOf", "(I)I"⟩, 14), (⟨"TryLoopsModel", "doStep", "(II)Z"⟩, 14), (⟨"TryLoopsModel", "isTry", "(I)Z"⟩, 14), (⟨"TryLoopsModel", "areLike", "(II)Z"⟩, 14), (⟨"TryLoopsModel", "verbOf", "(II)I"⟩, 14), (⟨"TryLoopsModel", "newLoop", "(III)I"⟩, 14), (⟨"TryLoopsModel", "numberOf", "(II)I"⟩, 14), (⟨"TryLoopsModel", "stride", "(III)V"⟩, 14), (⟨"TryLoopsModel", "canFold", "(II)Z"⟩, 14), (⟨"TryLoopsModel", "isLoop", "(I)Z"⟩, 14)]
theorem lw_r2 : ∀ q ∈ lw_privs_2, lw_okq q := List.forall_mem_cons.mpr ⟨lw_p16, List.forall_mem_cons.mpr ⟨lw_p17, List.forall_mem_cons.mpr ⟨lw_p18, List.forall_mem_cons.mpr ⟨lw_p19, List.forall_mem_cons.mpr ⟨lw_p20, List.forall_mem_cons.mpr ⟨lw_p21, List.forall_mem_cons.mpr ⟨lw_p22, List.forall_mem_cons.mpr ⟨lw_p23, List.forall_mem_cons.mpr ⟨lw_p24, List.forall_mem_cons.mpr ⟨lw_p25, List.forall_mem_cons.mpr ⟨lw_p26, List.forall_mem_cons.mpr ⟨lw_p27, List.forall_mem_cons.mpr ⟨lw_p28, List.forall_mem_cons.mpr ⟨lw_p29, List.forall_mem_cons.mpr ⟨lw_p30, List.forall_mem_cons.mpr ⟨lw_p31, fun _ h => absurd h List.not_mem_nil⟩⟩⟩⟩⟩⟩⟩⟩⟩⟩⟩⟩⟩⟩⟩⟩
theorem lw_p32 : lw_okq (⟨"TryLoopsModel", "playLoop", "(II)V"⟩, 14) := ⟨⟨by decide +kernel, by decide +kernel⟩, List.mem_of_getElem? (i := 665) (by decide +kernel), List.mem_of_getElem? (i := 815) (by decide +kernel), List.mem_of_getElem? (i := 816) (by decide +kernel)⟩
theorem lw_p33 : lw_okq (⟨"TryLoopsModel", "takeBody", "(I)V"⟩, 14) := ⟨⟨by decide +kernel, by decide +kernel⟩, List.mem_of_getElem? (i := 665) (by decide +kernel), List.mem_of_getElem? (i := 819) (by decide +kernel), List.mem_of_getElem? (i := 820) (by decide +kernel)⟩
theorem lw_p34 : lw_okq (⟨"TryLoopsModel", "playBody", "(I)V"⟩, 14) := ⟨⟨by decide +kernel, by decide +kernel⟩, List.mem_of_getElem? (i := 665) (by decide +kernel), List.mem_of_getElem? (i := 823) (by decide +kernel), List.mem_of_getElem? (i := 824) (by decide +kernel)⟩
theorem lw_p35 : lw_okq (⟨"TryLoopsModel", "turn", "(I)I"⟩, 14) := ⟨⟨by decide +kernel, by decide +kernel⟩, List.mem_of_getElem? (i := 665) (by decide +kernel), List.mem_of_getElem? (i := 827) (by decide +kernel), List.mem_of_getElem? (i := 828) (by decide +kernel)⟩
theorem lw_p36 : lw_okq (⟨"TryLoopsModel", "readText", "(Z)Z"⟩, 14) := ⟨⟨by decide +kernel, by decide +kernel⟩, List.mem_of_getElem? (i := 665) (by decide +kernel), List.mem_of_getElem? (i := 843) (by decide +kernel), List.mem_of_getElem? (i := 844) (by decide +kernel)⟩
theorem lw_p37 : lw_okq (⟨"TryLoopsModel", "readItem", "()I"⟩, 14) := ⟨⟨by decide +kernel, by decide +kernel⟩, List.mem_of_getElem? (i := 665) (by decide +kernel), List.mem_of_getElem? (i := 847) (by decide +kernel), List.mem_of_getElem? (i := 848) (by decide +kernel)⟩
theorem lw_p38 : lw_okq (⟨"TryLoopsModel", "sees", "(II)Z"⟩, 14) := ⟨⟨by decide +kernel, by decide +kernel⟩, List.mem_of_getElem? (i := 665) (by decide +kernel), List.mem_of_getElem? (i := 851) (by decide +kernel), List.mem_of_getElem? (i := 852) (by decide +kernel)⟩
theorem lw_p39 : lw_okq (⟨"TryLoopsModel", "readStep", "(Z)Z"⟩, 14) := ⟨⟨by decide +kernel, by decide +kernel⟩, List.mem_of_getElem? (i := 665) (by decide +kernel), List.mem_of_getElem? (i := 855) (by decide +kernel), List.mem_of_getElem? (i := 856) (by decide +kernel)⟩
theorem lw_p40 : lw_okq (⟨"TryLoopsModel", "number", "(II)I"⟩, 14) := ⟨⟨by decide +kernel, by decide +kernel⟩, List.mem_of_getElem? (i := 665) (by decide +kernel), List.mem_of_getElem? (i := 862) (by decide +kernel), List.mem_of_getElem? (i := 863) (by decide +kernel)⟩
theorem lw_p41 : lw_okq (⟨"TryLoopsModel", "takes", "(I)Z"⟩, 14) := ⟨⟨by decide +kernel, by decide +kernel⟩, List.mem_of_getElem? (i := 665) (by decide +kernel), List.mem_of_getElem? (i := 866) (by decide +kernel), List.mem_of_getElem? (i := 867) (by decide +kernel)⟩
theorem lw_p42 : lw_okq (⟨"TryLoopsModel", "sum", "()I"⟩, 14) := ⟨⟨by decide +kernel, by decide +kernel⟩, List.mem_of_getElem? (i := 665) (by decide +kernel), List.mem_of_getElem? (i := 890) (by decide +kernel), List.mem_of_getElem? (i := 891) (by decide +kernel)⟩
theorem lw_p43 : lw_okq (⟨"TryLoopsModel", "rowsOfVerbs", "()I"⟩, 14) := ⟨⟨by decide +kernel, by decide +kernel⟩, List.mem_of_getElem? (i := 665) (by decide +kernel), List.mem_of_getElem? (i := 894) (by decide +kernel), List.mem_of_getElem? (i := 895) (by decide +kernel)⟩
theorem lw_p44 : lw_okq (⟨"TryLoopsModel", "likeNumbers", "(II)I"⟩, 14) := ⟨⟨by decide +kernel, by decide +kernel⟩, List.mem_of_getElem? (i := 665) (by decide +kernel), List.mem_of_getElem? (i := 906) (by decide +kernel), List.mem_of_getElem? (i := 907) (by decide +kernel)⟩
theorem lw_p45 : lw_okq (⟨"TryLoopsModel", "tests", "(I)I"⟩, 14) := ⟨⟨by decide +kernel, by decide +kernel⟩, List.mem_of_getElem? (i := 665) (by decide +kernel), List.mem_of_getElem? (i := 922) (by decide +kernel), List.mem_of_getElem? (i := 923) (by decide +kernel)⟩
def lw_privs_3 : List (MethodName × Nat) := [(⟨"TryLoopsModel", "playLoop", "(II)V"⟩, 14), (⟨"TryLoopsModel", "takeBody", "(I)V"⟩, 14), (⟨"TryLoopsModel", "playBody", "(I)V"⟩, 14), (⟨"TryLoopsModel", "turn", "(I)I"⟩, 14), (⟨"TryLoopsModel", "readText", "(Z)Z"⟩, 14), (⟨"TryLoopsModel", "readItem", "()I"⟩, 14), (⟨"TryLoopsModel", "sees", "(II)Z"⟩, 14), (⟨"TryLoopsModel", "readStep", "(Z)Z"⟩, 14), (⟨"TryLoopsModel", "number", "(II)I"⟩, 14), (⟨"TryLoopsModel", "takes", "(I)Z"⟩, 14), (⟨"TryLoopsModel", "sum", "()I"⟩, 14), (⟨"TryLoopsModel", "rowsOfVerbs", "()I"⟩, 14), (⟨"TryLoopsModel", "likeNumbers", "(II)I"⟩, 14), (⟨"TryLoopsModel", "tests", "(I)I"⟩, 14)]
theorem lw_r3 : ∀ q ∈ lw_privs_3, lw_okq q := List.forall_mem_cons.mpr ⟨lw_p32, List.forall_mem_cons.mpr ⟨lw_p33, List.forall_mem_cons.mpr ⟨lw_p34, List.forall_mem_cons.mpr ⟨lw_p35, List.forall_mem_cons.mpr ⟨lw_p36, List.forall_mem_cons.mpr ⟨lw_p37, List.forall_mem_cons.mpr ⟨lw_p38, List.forall_mem_cons.mpr ⟨lw_p39, List.forall_mem_cons.mpr ⟨lw_p40, List.forall_mem_cons.mpr ⟨lw_p41, List.forall_mem_cons.mpr ⟨lw_p42, List.forall_mem_cons.mpr ⟨lw_p43, List.forall_mem_cons.mpr ⟨lw_p44, List.forall_mem_cons.mpr ⟨lw_p45, fun _ h => absurd h List.not_mem_nil⟩⟩⟩⟩⟩⟩⟩⟩⟩⟩⟩⟩⟩⟩
def lw_privs : List (MethodName × Nat) := lw_privs_1 ++ (lw_privs_2 ++ (lw_privs_3))
def lw_tbl : List Cond := k2_sels lw_privs ++ tables_1
theorem lw_privs_ok : ∀ q ∈ lw_privs, lw_okq q := by
  show ∀ q ∈ lw_privs_1 ++ (lw_privs_2 ++ (lw_privs_3)), lw_okq q
  exact List.forall_mem_append.mpr ⟨lw_r1, List.forall_mem_append.mpr ⟨lw_r2, lw_r3⟩⟩
def RX0 : String := "TryLoops$History"
def TX0 : u_T := fun k => match k with
  | 0 => ("TryLoops$History", "states", "[LTryLoops$State;", true)
  | _ => ("TryLoops$History", "count", "I", false)
def tyX0 : Nat → FieldType := fun k => match k with
  | 0 => .array (.object "TryLoops$State")
  | _ => .int
abbrev wsX00 : List Cond := u_ws RX0 TX0 2
theorem nmX0 : ∀ a, a < 2 → ∀ b, b < 2 → a ≠ b → (TX0 a).2.1 ≠ (TX0 b).2.1 := by decide +kernel
theorem tyX0_ok : ∀ k, k < 2 → parseFieldDescriptor (TX0 k).2.2.1 = some (tyX0 k) := by decide +kernel
abbrev cX0_init : ByteArray := prog_2_method_1_code
def yX0_init : MethodName := ⟨RX0, "<init>", "()V"⟩
abbrev cX0_push : ByteArray := prog_2_method_2_code
def yX0_push : MethodName := ⟨RX0, "push", "(LTryLoops$State;)V"⟩
abbrev cX0_pop : ByteArray := prog_2_method_3_code
def yX0_pop : MethodName := ⟨RX0, "pop", "(LTryLoops$State;)Z"⟩
abbrev cX0_dropOldest : ByteArray := prog_2_method_4_code
def yX0_dropOldest : MethodName := ⟨RX0, "dropOldest", "()V"⟩
def RX1 : String := "TryLoops$Play"
def TX1 : u_T := fun k => match k with
  | 0 => ("TryLoops$Play", "done", "I", false)
  | 1 => ("TryLoops$Play", "testsPassed", "I", false)
  | _ => ("TryLoops$Play", "reason", "I", false)
def tyX1 : Nat → FieldType := fun k => match k with
  | 0 => .int
  | 1 => .int
  | _ => .int
abbrev wsX10 : List Cond := u_ws RX1 TX1 3
theorem nmX1 : ∀ a, a < 3 → ∀ b, b < 3 → a ≠ b → (TX1 a).2.1 ≠ (TX1 b).2.1 := by decide +kernel
theorem tyX1_ok : ∀ k, k < 3 → parseFieldDescriptor (TX1 k).2.2.1 = some (tyX1 k) := by decide +kernel
abbrev cX1_init : ByteArray := prog_3_method_1_code
def yX1_init : MethodName := ⟨RX1, "<init>", "()V"⟩
abbrev cX1_begin : ByteArray := prog_3_method_2_code
def yX1_begin : MethodName := ⟨RX1, "begin", "()V"⟩
abbrev cX1_doTurns : ByteArray := prog_3_method_3_code
def yX1_doTurns : MethodName := ⟨RX1, "doTurns", "(LTryLoops$Row;LTryLoops$Shelf;II)V"⟩
abbrev cX1_doTurn : ByteArray := prog_3_method_4_code
def yX1_doTurn : MethodName := ⟨RX1, "doTurn", "(LTryLoops$Row;LTryLoops$Shelf;II)Z"⟩
def RX2 : String := "TryLoops$Row"
def TX2 : u_T := fun k => match k with
  | 0 => ("TryLoops$Row", "cells", "[I", true)
  | _ => ("TryLoops$Row", "hand", "I", false)
def tyX2 : Nat → FieldType := fun k => match k with
  | 0 => .array .int
  | _ => .int
abbrev wsX20 : List Cond := u_ws RX2 TX2 2
theorem nmX2 : ∀ a, a < 2 → ∀ b, b < 2 → a ≠ b → (TX2 a).2.1 ≠ (TX2 b).2.1 := by decide +kernel
theorem tyX2_ok : ∀ k, k < 2 → parseFieldDescriptor (TX2 k).2.2.1 = some (tyX2 k) := by decide +kernel
abbrev cX2_init : ByteArray := prog_4_method_1_code
def yX2_init : MethodName := ⟨RX2, "<init>", "()V"⟩
abbrev cX2_valueAt : ByteArray := prog_4_method_2_code
def yX2_valueAt : MethodName := ⟨RX2, "valueAt", "(I)I"⟩
abbrev cX2_valueUnderHand : ByteArray := prog_4_method_3_code
def yX2_valueUnderHand : MethodName := ⟨RX2, "valueUnderHand", "()I"⟩
abbrev cX2_sum : ByteArray := prog_4_method_4_code
def yX2_sum : MethodName := ⟨RX2, "sum", "()I"⟩
abbrev cX2_copyFrom : ByteArray := prog_4_method_5_code
def yX2_copyFrom : MethodName := ⟨RX2, "copyFrom", "(LTryLoops$Row;)V"⟩
abbrev cX2_obey : ByteArray := prog_4_method_6_code
def yX2_obey : MethodName := ⟨RX2, "obey", "(II)Z"⟩
abbrev cX2_put : ByteArray := prog_4_method_7_code
def yX2_put : MethodName := ⟨RX2, "put", "(II)V"⟩
def RX3 : String := "TryLoops$Shelf"
def TX3 : u_T := fun k => match k with
  | 0 => ("TryLoops$Shelf", "width", "I", true)
  | 1 => ("TryLoops$Shelf", "verbs", "[I", true)
  | 2 => ("TryLoops$Shelf", "numbers", "[I", true)
  | 3 => ("TryLoops$Shelf", "strides", "[I", true)
  | 4 => ("TryLoops$Shelf", "sizes", "[I", true)
  | 5 => ("TryLoops$Shelf", "turns", "[I", true)
  | _ => ("TryLoops$Shelf", "count", "I", false)
def tyX3 : Nat → FieldType := fun k => match k with
  | 0 => .int
  | 1 => .array .int
  | 2 => .array .int
  | 3 => .array .int
  | 4 => .array .int
  | 5 => .array .int
  | _ => .int
abbrev wsX30 : List Cond := u_ws RX3 TX3 7
theorem nmX3 : ∀ a, a < 7 → ∀ b, b < 7 → a ≠ b → (TX3 a).2.1 ≠ (TX3 b).2.1 := by decide +kernel
theorem tyX3_ok : ∀ k, k < 7 → parseFieldDescriptor (TX3 k).2.2.1 = some (tyX3 k) := by decide +kernel
abbrev cX3_init : ByteArray := prog_5_method_1_code
def yX3_init : MethodName := ⟨RX3, "<init>", "(II)V"⟩
abbrev cX3_holds : ByteArray := prog_5_method_2_code
def yX3_holds : MethodName := ⟨RX3, "holds", "(I)Z"⟩
abbrev cX3_isFull : ByteArray := prog_5_method_3_code
def yX3_isFull : MethodName := ⟨RX3, "isFull", "()Z"⟩
abbrev cX3_hasStep : ByteArray := prog_5_method_4_code
def yX3_hasStep : MethodName := ⟨RX3, "hasStep", "(II)Z"⟩
abbrev cX3_sizeOf : ByteArray := prog_5_method_5_code
def yX3_sizeOf : MethodName := ⟨RX3, "sizeOf", "(I)I"⟩
abbrev cX3_turnsOf : ByteArray := prog_5_method_6_code
def yX3_turnsOf : MethodName := ⟨RX3, "turnsOf", "(I)I"⟩
abbrev cX3_verbAt : ByteArray := prog_5_method_7_code
def yX3_verbAt : MethodName := ⟨RX3, "verbAt", "(II)I"⟩
abbrev cX3_numberAt : ByteArray := prog_5_method_8_code
def yX3_numberAt : MethodName := ⟨RX3, "numberAt", "(II)I"⟩
abbrev cX3_strideAt : ByteArray := prog_5_method_9_code
def yX3_strideAt : MethodName := ⟨RX3, "strideAt", "(II)I"⟩
abbrev cX3_numberInTurn : ByteArray := prog_5_method_10_code
def yX3_numberInTurn : MethodName := ⟨RX3, "numberInTurn", "(III)I"⟩
abbrev cX3_haveSameVerbs : ByteArray := prog_5_method_11_code
def yX3_haveSameVerbs : MethodName := ⟨RX3, "haveSameVerbs", "(II)Z"⟩
abbrev cX3_emptyNext : ByteArray := prog_5_method_12_code
def yX3_emptyNext : MethodName := ⟨RX3, "emptyNext", "()V"⟩
abbrev cX3_keepNext : ByteArray := prog_5_method_13_code
def yX3_keepNext : MethodName := ⟨RX3, "keepNext", "(I)I"⟩
abbrev cX3_giveTurns : ByteArray := prog_5_method_14_code
def yX3_giveTurns : MethodName := ⟨RX3, "giveTurns", "(II)V"⟩
abbrev cX3_append : ByteArray := prog_5_method_15_code
def yX3_append : MethodName := ⟨RX3, "append", "(IIII)V"⟩
abbrev cX3_drop : ByteArray := prog_5_method_16_code
def yX3_drop : MethodName := ⟨RX3, "drop", "(I)V"⟩
abbrev cX3_clear : ByteArray := prog_5_method_17_code
def yX3_clear : MethodName := ⟨RX3, "clear", "()V"⟩
abbrev cX3_copyFrom : ByteArray := prog_5_method_18_code
def yX3_copyFrom : MethodName := ⟨RX3, "copyFrom", "(LTryLoops$Shelf;)V"⟩
abbrev cX3_hasPlace : ByteArray := prog_5_method_19_code
def yX3_hasPlace : MethodName := ⟨RX3, "hasPlace", "(I)Z"⟩
abbrev cX3_look : ByteArray := prog_5_method_20_code
def yX3_look : MethodName := ⟨RX3, "look", "([III)I"⟩
abbrev cX3_moveUp : ByteArray := prog_5_method_21_code
def yX3_moveUp : MethodName := ⟨RX3, "moveUp", "([III)V"⟩
def RX4 : String := "TryLoops$State"
def TX4 : u_T := fun k => match k with
  | 0 => ("TryLoops$State", "row", "LTryLoops$Row;", true)
  | 1 => ("TryLoops$State", "tries", "LTryLoops$Shelf;", true)
  | 2 => ("TryLoops$State", "loops", "LTryLoops$Shelf;", true)
  | 3 => ("TryLoops$State", "open", "Z", false)
  | 4 => ("TryLoops$State", "stepsDone", "I", false)
  | 5 => ("TryLoops$State", "testsFailed", "I", false)
  | 6 => ("TryLoops$State", "plays", "I", false)
  | _ => ("TryLoops$State", "latestReason", "I", false)
def tyX4 : Nat → FieldType := fun k => match k with
  | 0 => .object "TryLoops$Row"
  | 1 => .object "TryLoops$Shelf"
  | 2 => .object "TryLoops$Shelf"
  | 3 => .boolean
  | 4 => .int
  | 5 => .int
  | 6 => .int
  | _ => .int
abbrev wsX40 : List Cond := u_ws RX4 TX4 8
theorem nmX4 : ∀ a, a < 8 → ∀ b, b < 8 → a ≠ b → (TX4 a).2.1 ≠ (TX4 b).2.1 := by decide +kernel
theorem tyX4_ok : ∀ k, k < 8 → parseFieldDescriptor (TX4 k).2.2.1 = some (tyX4 k) := by decide +kernel
abbrev cX4_init : ByteArray := prog_6_method_1_code
def yX4_init : MethodName := ⟨RX4, "<init>", "()V"⟩
abbrev cX4_openSize : ByteArray := prog_6_method_2_code
def yX4_openSize : MethodName := ⟨RX4, "openSize", "()I"⟩
abbrev cX4_obey : ByteArray := prog_6_method_3_code
def yX4_obey : MethodName := ⟨RX4, "obey", "(II)Z"⟩
abbrev cX4_playLoop : ByteArray := prog_6_method_4_code
def yX4_playLoop : MethodName := ⟨RX4, "playLoop", "(LTryLoops$Play;LTryLoops$Shelf;I)I"⟩
abbrev cX4_copyFrom : ByteArray := prog_6_method_5_code
def yX4_copyFrom : MethodName := ⟨RX4, "copyFrom", "(LTryLoops$State;)V"⟩
def RX5 : String := "TryLoops$Text"
def TX5 : u_T := fun k => match k with
  | 0 => ("TryLoops$Text", "signs", "[C", true)
  | 1 => ("TryLoops$Text", "size", "I", false)
  | 2 => ("TryLoops$Text", "at", "I", false)
  | _ => ("TryLoops$Text", "items", "LTryLoops$Shelf;", true)
def tyX5 : Nat → FieldType := fun k => match k with
  | 0 => .array .char
  | 1 => .int
  | 2 => .int
  | _ => .object "TryLoops$Shelf"
abbrev wsX50 : List Cond := u_ws RX5 TX5 4
theorem nmX5 : ∀ a, a < 4 → ∀ b, b < 4 → a ≠ b → (TX5 a).2.1 ≠ (TX5 b).2.1 := by decide +kernel
theorem tyX5_ok : ∀ k, k < 4 → parseFieldDescriptor (TX5 k).2.2.1 = some (tyX5 k) := by decide +kernel
abbrev cX5_init : ByteArray := prog_7_method_1_code
def yX5_init : MethodName := ⟨RX5, "<init>", "()V"⟩
abbrev cX5_append : ByteArray := prog_7_method_2_code
def yX5_append : MethodName := ⟨RX5, "append", "(C)Z"⟩
abbrev cX5_read : ByteArray := prog_7_method_3_code
def yX5_read : MethodName := ⟨RX5, "read", "()Z"⟩
abbrev cX5_readItem : ByteArray := prog_7_method_4_code
def yX5_readItem : MethodName := ⟨RX5, "readItem", "()Z"⟩
abbrev cX5_readBody : ByteArray := prog_7_method_5_code
def yX5_readBody : MethodName := ⟨RX5, "readBody", "()Z"⟩
abbrev cX5_readStep : ByteArray := prog_7_method_6_code
def yX5_readStep : MethodName := ⟨RX5, "readStep", "(Z)Z"⟩
abbrev cX5_readNumber : ByteArray := prog_7_method_7_code
def yX5_readNumber : MethodName := ⟨RX5, "readNumber", "(II)I"⟩
abbrev cX5_digitOf : ByteArray := prog_7_method_8_code
def yX5_digitOf : MethodName := ⟨RX5, "digitOf", "(C)I"⟩
abbrev cX5_take : ByteArray := prog_7_method_9_code
def yX5_take : MethodName := ⟨RX5, "take", "(C)Z"⟩
abbrev cX5_next : ByteArray := prog_7_method_10_code
def yX5_next : MethodName := ⟨RX5, "next", "()C"⟩
def RX6 : String := "TryLoops"
def TX6 : u_T := fun k => match k with
  | 0 => ("TryLoops", "now", "LTryLoops$State;", true)
  | 1 => ("TryLoops", "history", "LTryLoops$History;", true)
  | 2 => ("TryLoops", "snapshot", "LTryLoops$State;", true)
  | 3 => ("TryLoops", "snapshotTaken", "Z", false)
  | 4 => ("TryLoops", "text", "LTryLoops$Text;", true)
  | 5 => ("TryLoops", "run", "LTryLoops$Play;", true)
  | 6 => ("TryLoops", "rehearsal", "LTryLoops$Row;", true)
  | _ => ("TryLoops", "commonCounts", "[I", true)
def tyX6 : Nat → FieldType := fun k => match k with
  | 0 => .object "TryLoops$State"
  | 1 => .object "TryLoops$History"
  | 2 => .object "TryLoops$State"
  | 3 => .boolean
  | 4 => .object "TryLoops$Text"
  | 5 => .object "TryLoops$Play"
  | 6 => .object "TryLoops$Row"
  | _ => .array .int
abbrev wsX60 : List Cond := u_ws RX6 TX6 8
theorem nmX6 : ∀ a, a < 8 → ∀ b, b < 8 → a ≠ b → (TX6 a).2.1 ≠ (TX6 b).2.1 := by decide +kernel
theorem tyX6_ok : ∀ k, k < 8 → parseFieldDescriptor (TX6 k).2.2.1 = some (tyX6 k) := by decide +kernel
abbrev cX6_init : ByteArray := prog_1_method_1_code
def yX6_init : MethodName := ⟨RX6, "<init>", "()V"⟩
abbrev cX6_step : ByteArray := prog_1_method_2_code
def yX6_step : MethodName := ⟨RX6, "step", "(II)I"⟩
abbrev cX6_record : ByteArray := prog_1_method_3_code
def yX6_record : MethodName := ⟨RX6, "record", "()I"⟩
abbrev cX6_end : ByteArray := prog_1_method_4_code
def yX6_end : MethodName := ⟨RX6, "end", "()I"⟩
abbrev cX6_dropTry : ByteArray := prog_1_method_5_code
def yX6_dropTry : MethodName := ⟨RX6, "dropTry", "(I)I"⟩
abbrev cX6_generalise : ByteArray := prog_1_method_6_code
def yX6_generalise : MethodName := ⟨RX6, "generalise", "(II)I"⟩
abbrev cX6_fold : ByteArray := prog_1_method_7_code
def yX6_fold : MethodName := ⟨RX6, "fold", "(I)I"⟩
abbrev cX6_setTurns : ByteArray := prog_1_method_8_code
def yX6_setTurns : MethodName := ⟨RX6, "setTurns", "(II)I"⟩
abbrev cX6_dropLoop : ByteArray := prog_1_method_9_code
def yX6_dropLoop : MethodName := ⟨RX6, "dropLoop", "(I)I"⟩
abbrev cX6_play : ByteArray := prog_1_method_10_code
def yX6_play : MethodName := ⟨RX6, "play", "(I)I"⟩
abbrev cX6_type : ByteArray := prog_1_method_11_code
def yX6_type : MethodName := ⟨RX6, "type", "(C)I"⟩
abbrev cX6_clearText : ByteArray := prog_1_method_12_code
def yX6_clearText : MethodName := ⟨RX6, "clearText", "()I"⟩
abbrev cX6_perform : ByteArray := prog_1_method_13_code
def yX6_perform : MethodName := ⟨RX6, "perform", "()I"⟩
abbrev cX6_undo : ByteArray := prog_1_method_14_code
def yX6_undo : MethodName := ⟨RX6, "undo", "()I"⟩
abbrev cX6_keep : ByteArray := prog_1_method_15_code
def yX6_keep : MethodName := ⟨RX6, "keep", "()I"⟩
abbrev cX6_restore : ByteArray := prog_1_method_16_code
def yX6_restore : MethodName := ⟨RX6, "restore", "()I"⟩
abbrev cX6_cell : ByteArray := prog_1_method_17_code
def yX6_cell : MethodName := ⟨RX6, "cell", "(I)I"⟩
abbrev cX6_ofTry : ByteArray := prog_1_method_18_code
def yX6_ofTry : MethodName := ⟨RX6, "ofTry", "(III)I"⟩
abbrev cX6_ofLoop : ByteArray := prog_1_method_19_code
def yX6_ofLoop : MethodName := ⟨RX6, "ofLoop", "(III)I"⟩
abbrev cX6_length : ByteArray := prog_1_method_20_code
def yX6_length : MethodName := ⟨RX6, "length", "(II)I"⟩
abbrev cX6_total : ByteArray := prog_1_method_21_code
def yX6_total : MethodName := ⟨RX6, "total", "(I)I"⟩
abbrev cX6_alike : ByteArray := prog_1_method_22_code
def yX6_alike : MethodName := ⟨RX6, "alike", "(III)I"⟩
abbrev cX6_bestPair : ByteArray := prog_1_method_23_code
def yX6_bestPair : MethodName := ⟨RX6, "bestPair", "(I)I"⟩
abbrev cX6_fits : ByteArray := prog_1_method_24_code
def yX6_fits : MethodName := ⟨RX6, "fits", "(II)I"⟩
abbrev cX6_mostTurns : ByteArray := prog_1_method_25_code
def yX6_mostTurns : MethodName := ⟨RX6, "mostTurns", "(I)I"⟩
abbrev cX6_ifPlayed : ByteArray := prog_1_method_26_code
def yX6_ifPlayed : MethodName := ⟨RX6, "ifPlayed", "(III)I"⟩
abbrev cX6_fewestTurns : ByteArray := prog_1_method_27_code
def yX6_fewestTurns : MethodName := ⟨RX6, "fewestTurns", "(III)I"⟩
abbrev cX6_isVerb : ByteArray := prog_1_method_28_code
def yX6_isVerb : MethodName := ⟨RX6, "isVerb", "(I)Z"⟩
abbrev cX6_isCell : ByteArray := prog_1_method_29_code
def yX6_isCell : MethodName := ⟨RX6, "isCell", "(I)Z"⟩
abbrev cX6_isTurns : ByteArray := prog_1_method_30_code
def yX6_isTurns : MethodName := ⟨RX6, "isTurns", "(I)Z"⟩
abbrev cX6_greatestNumber : ByteArray := prog_1_method_31_code
def yX6_greatestNumber : MethodName := ⟨RX6, "greatestNumber", "(I)I"⟩
abbrev cX6_inRange : ByteArray := prog_1_method_32_code
def yX6_inRange : MethodName := ⟨RX6, "inRange", "(II)Z"⟩
abbrev cX6_canGeneralise : ByteArray := prog_1_method_33_code
def yX6_canGeneralise : MethodName := ⟨RX6, "canGeneralise", "(II)Z"⟩
abbrev cX6_countZeroStrides : ByteArray := prog_1_method_34_code
def yX6_countZeroStrides : MethodName := ⟨RX6, "countZeroStrides", "(II)I"⟩
abbrev cX6_countVerbRows : ByteArray := prog_1_method_35_code
def yX6_countVerbRows : MethodName := ⟨RX6, "countVerbRows", "()I"⟩
abbrev cX6_countCommon : ByteArray := prog_1_method_36_code
def yX6_countCommon : MethodName := ⟨RX6, "countCommon", "(IIZ)I"⟩
abbrev cX6_areAlike : ByteArray := prog_1_method_37_code
def yX6_areAlike : MethodName := ⟨RX6, "areAlike", "(IIIIZ)Z"⟩
abbrev cX6_makeLoop : ByteArray := prog_1_method_38_code
def yX6_makeLoop : MethodName := ⟨RX6, "makeLoop", "(IIIII)I"⟩
abbrev cX6_leastPeriod : ByteArray := prog_1_method_39_code
def yX6_leastPeriod : MethodName := ⟨RX6, "leastPeriod", "(I)I"⟩
abbrev cX6_repeatsBy : ByteArray := prog_1_method_40_code
def yX6_repeatsBy : MethodName := ⟨RX6, "repeatsBy", "(II)Z"⟩
abbrev cX6_riseAt : ByteArray := prog_1_method_41_code
def yX6_riseAt : MethodName := ⟨RX6, "riseAt", "(III)I"⟩
abbrev cX6_isTurn : ByteArray := prog_1_method_42_code
def yX6_isTurn : MethodName := ⟨RX6, "isTurn", "(IIII)Z"⟩
abbrev cX6_turnsInRange : ByteArray := prog_1_method_43_code
def yX6_turnsInRange : MethodName := ⟨RX6, "turnsInRange", "(II)I"⟩
abbrev cX6_copyNumbers : ByteArray := prog_1_method_44_code
def yX6_copyNumbers : MethodName := ⟨RX6, "copyNumbers", "([I[I)V"⟩
def RX7 : String := "TryLoopsModel"
def TX7 : u_T := fun k => match k with
  | 0 => ("TryLoopsModel", "z", "[I", true)
  | 1 => ("TryLoopsModel", "spare", "[I", true)
  | 2 => ("TryLoopsModel", "past", "[I", true)
  | 3 => ("TryLoopsModel", "states", "I", false)
  | 4 => ("TryLoopsModel", "kept", "[I", true)
  | 5 => ("TryLoopsModel", "isKept", "Z", false)
  | 6 => ("TryLoopsModel", "text", "[I", true)
  | 7 => ("TryLoopsModel", "length", "I", false)
  | 8 => ("TryLoopsModel", "verbs", "[I", true)
  | 9 => ("TryLoopsModel", "numbers", "[I", true)
  | 10 => ("TryLoopsModel", "strides", "[I", true)
  | 11 => ("TryLoopsModel", "size", "I", false)
  | 12 => ("TryLoopsModel", "spot", "I", false)
  | _ => ("TryLoopsModel", "common", "[I", true)
def tyX7 : Nat → FieldType := fun k => match k with
  | 0 => .array .int
  | 1 => .array .int
  | 2 => .array .int
  | 3 => .int
  | 4 => .array .int
  | 5 => .boolean
  | 6 => .array .int
  | 7 => .int
  | 8 => .array .int
  | 9 => .array .int
  | 10 => .array .int
  | 11 => .int
  | 12 => .int
  | _ => .array .int
abbrev wsX70 : List Cond := u_ws RX7 TX7 14
theorem nmX7 : ∀ a, a < 14 → ∀ b, b < 14 → a ≠ b → (TX7 a).2.1 ≠ (TX7 b).2.1 := by decide +kernel
theorem tyX7_ok : ∀ k, k < 14 → parseFieldDescriptor (TX7 k).2.2.1 = some (tyX7 k) := by decide +kernel
abbrev cX7_init : ByteArray := prog_9_method_1_code
def yX7_init : MethodName := ⟨RX7, "<init>", "()V"⟩
abbrev cX7_in : ByteArray := prog_9_method_2_code
def yX7_in : MethodName := ⟨RX7, "in", "(III)Z"⟩
abbrev cX7_greatest : ByteArray := prog_9_method_3_code
def yX7_greatest : MethodName := ⟨RX7, "greatest", "(I)I"⟩
abbrev cX7_isTry : ByteArray := prog_9_method_4_code
def yX7_isTry : MethodName := ⟨RX7, "isTry", "(I)Z"⟩
abbrev cX7_isLoop : ByteArray := prog_9_method_5_code
def yX7_isLoop : MethodName := ⟨RX7, "isLoop", "(I)Z"⟩
abbrev cX7_sizeOf : ByteArray := prog_9_method_6_code
def yX7_sizeOf : MethodName := ⟨RX7, "sizeOf", "(I)I"⟩
abbrev cX7_verbOf : ByteArray := prog_9_method_7_code
def yX7_verbOf : MethodName := ⟨RX7, "verbOf", "(II)I"⟩
abbrev cX7_numberOf : ByteArray := prog_9_method_8_code
def yX7_numberOf : MethodName := ⟨RX7, "numberOf", "(II)I"⟩
abbrev cX7_copyState : ByteArray := prog_9_method_9_code
def yX7_copyState : MethodName := ⟨RX7, "copyState", "([II[II)V"⟩
abbrev cX7_save : ByteArray := prog_9_method_10_code
def yX7_save : MethodName := ⟨RX7, "save", "()V"⟩
abbrev cX7_undo : ByteArray := prog_9_method_11_code
def yX7_undo : MethodName := ⟨RX7, "undo", "()I"⟩
abbrev cX7_keep : ByteArray := prog_9_method_12_code
def yX7_keep : MethodName := ⟨RX7, "keep", "()I"⟩
abbrev cX7_restore : ByteArray := prog_9_method_13_code
def yX7_restore : MethodName := ⟨RX7, "restore", "()I"⟩
abbrev cX7_doStep : ByteArray := prog_9_method_14_code
def yX7_doStep : MethodName := ⟨RX7, "doStep", "(II)Z"⟩
abbrev cX7_step : ByteArray := prog_9_method_15_code
def yX7_step : MethodName := ⟨RX7, "step", "(II)I"⟩
abbrev cX7_record : ByteArray := prog_9_method_16_code
def yX7_record : MethodName := ⟨RX7, "record", "()I"⟩
abbrev cX7_end : ByteArray := prog_9_method_17_code
def yX7_end : MethodName := ⟨RX7, "end", "()I"⟩
abbrev cX7_dropTry : ByteArray := prog_9_method_18_code
def yX7_dropTry : MethodName := ⟨RX7, "dropTry", "(I)I"⟩
abbrev cX7_newLoop : ByteArray := prog_9_method_19_code
def yX7_newLoop : MethodName := ⟨RX7, "newLoop", "(III)I"⟩
abbrev cX7_stride : ByteArray := prog_9_method_20_code
def yX7_stride : MethodName := ⟨RX7, "stride", "(III)V"⟩
abbrev cX7_areLike : ByteArray := prog_9_method_21_code
def yX7_areLike : MethodName := ⟨RX7, "areLike", "(II)Z"⟩
abbrev cX7_generalise : ByteArray := prog_9_method_22_code
def yX7_generalise : MethodName := ⟨RX7, "generalise", "(II)I"⟩
abbrev cX7_canFold : ByteArray := prog_9_method_23_code
def yX7_canFold : MethodName := ⟨RX7, "canFold", "(II)Z"⟩
abbrev cX7_fold : ByteArray := prog_9_method_24_code
def yX7_fold : MethodName := ⟨RX7, "fold", "(I)I"⟩
abbrev cX7_setTurns : ByteArray := prog_9_method_25_code
def yX7_setTurns : MethodName := ⟨RX7, "setTurns", "(II)I"⟩
abbrev cX7_dropLoop : ByteArray := prog_9_method_26_code
def yX7_dropLoop : MethodName := ⟨RX7, "dropLoop", "(I)I"⟩
abbrev cX7_takeBody : ByteArray := prog_9_method_27_code
def yX7_takeBody : MethodName := ⟨RX7, "takeBody", "(I)V"⟩
abbrev cX7_turn : ByteArray := prog_9_method_28_code
def yX7_turn : MethodName := ⟨RX7, "turn", "(I)I"⟩
abbrev cX7_playBody : ByteArray := prog_9_method_29_code
def yX7_playBody : MethodName := ⟨RX7, "playBody", "(I)V"⟩
abbrev cX7_playLoop : ByteArray := prog_9_method_30_code
def yX7_playLoop : MethodName := ⟨RX7, "playLoop", "(II)V"⟩
abbrev cX7_play : ByteArray := prog_9_method_31_code
def yX7_play : MethodName := ⟨RX7, "play", "(I)I"⟩
abbrev cX7_type : ByteArray := prog_9_method_32_code
def yX7_type : MethodName := ⟨RX7, "type", "(C)I"⟩
abbrev cX7_clearText : ByteArray := prog_9_method_33_code
def yX7_clearText : MethodName := ⟨RX7, "clearText", "()I"⟩
abbrev cX7_sees : ByteArray := prog_9_method_34_code
def yX7_sees : MethodName := ⟨RX7, "sees", "(II)Z"⟩
abbrev cX7_takes : ByteArray := prog_9_method_35_code
def yX7_takes : MethodName := ⟨RX7, "takes", "(I)Z"⟩
abbrev cX7_number : ByteArray := prog_9_method_36_code
def yX7_number : MethodName := ⟨RX7, "number", "(II)I"⟩
abbrev cX7_verbBy : ByteArray := prog_9_method_37_code
def yX7_verbBy : MethodName := ⟨RX7, "verbBy", "(I)I"⟩
abbrev cX7_readStep : ByteArray := prog_9_method_38_code
def yX7_readStep : MethodName := ⟨RX7, "readStep", "(Z)Z"⟩
abbrev cX7_readItem : ByteArray := prog_9_method_39_code
def yX7_readItem : MethodName := ⟨RX7, "readItem", "()I"⟩
abbrev cX7_readText : ByteArray := prog_9_method_40_code
def yX7_readText : MethodName := ⟨RX7, "readText", "(Z)Z"⟩
abbrev cX7_perform : ByteArray := prog_9_method_41_code
def yX7_perform : MethodName := ⟨RX7, "perform", "()I"⟩
abbrev cX7_cell : ByteArray := prog_9_method_42_code
def yX7_cell : MethodName := ⟨RX7, "cell", "(I)I"⟩
abbrev cX7_ofTry : ByteArray := prog_9_method_43_code
def yX7_ofTry : MethodName := ⟨RX7, "ofTry", "(III)I"⟩
abbrev cX7_ofLoop : ByteArray := prog_9_method_44_code
def yX7_ofLoop : MethodName := ⟨RX7, "ofLoop", "(III)I"⟩
abbrev cX7_length : ByteArray := prog_9_method_45_code
def yX7_length : MethodName := ⟨RX7, "length", "(II)I"⟩
abbrev cX7_sum : ByteArray := prog_9_method_46_code
def yX7_sum : MethodName := ⟨RX7, "sum", "()I"⟩
abbrev cX7_rowsOfVerbs : ByteArray := prog_9_method_47_code
def yX7_rowsOfVerbs : MethodName := ⟨RX7, "rowsOfVerbs", "()I"⟩
abbrev cX7_total : ByteArray := prog_9_method_48_code
def yX7_total : MethodName := ⟨RX7, "total", "(I)I"⟩
abbrev cX7_alike : ByteArray := prog_9_method_49_code
def yX7_alike : MethodName := ⟨RX7, "alike", "(III)I"⟩
abbrev cX7_likeNumbers : ByteArray := prog_9_method_50_code
def yX7_likeNumbers : MethodName := ⟨RX7, "likeNumbers", "(II)I"⟩
abbrev cX7_bestPair : ByteArray := prog_9_method_51_code
def yX7_bestPair : MethodName := ⟨RX7, "bestPair", "(I)I"⟩
abbrev cX7_fits : ByteArray := prog_9_method_52_code
def yX7_fits : MethodName := ⟨RX7, "fits", "(II)I"⟩
abbrev cX7_mostTurns : ByteArray := prog_9_method_53_code
def yX7_mostTurns : MethodName := ⟨RX7, "mostTurns", "(I)I"⟩
abbrev cX7_tests : ByteArray := prog_9_method_54_code
def yX7_tests : MethodName := ⟨RX7, "tests", "(I)I"⟩
abbrev cX7_ifPlayed : ByteArray := prog_9_method_55_code
def yX7_ifPlayed : MethodName := ⟨RX7, "ifPlayed", "(III)I"⟩
abbrev cX7_fewestTurns : ByteArray := prog_9_method_56_code
def yX7_fewestTurns : MethodName := ⟨RX7, "fewestTurns", "(III)I"⟩
def RJ11 : String := "java/lang/Character"
def TJ11 : u_T := fun k => match k with
  | _ => ("", "", "", false)
def tyJ11 : Nat → FieldType := fun k => match k with
  | _ => .int
abbrev wsJ110 : List Cond := u_ws RJ11 TJ11 0
theorem nmJ11 : ∀ a, a < 0 → ∀ b, b < 0 → a ≠ b → (TJ11 a).2.1 ≠ (TJ11 b).2.1 := by decide +kernel
theorem tyJ11_ok : ∀ k, k < 0 → parseFieldDescriptor (TJ11 k).2.2.1 = some (tyJ11 k) := by decide +kernel
abbrev cJ11_isValidCodePoint_9a6ad : ByteArray := prog_10_method_11_code
def yJ11_isValidCodePoint_9a6ad : MethodName := ⟨RJ11, "isValidCodePoint", "(I)Z"⟩
abbrev cJ11_highSurrogate_5068e : ByteArray := prog_10_method_28_code
def yJ11_highSurrogate_5068e : MethodName := ⟨RJ11, "highSurrogate", "(I)C"⟩
abbrev cJ11_lowSurrogate_5068e : ByteArray := prog_10_method_29_code
def yJ11_lowSurrogate_5068e : MethodName := ⟨RJ11, "lowSurrogate", "(I)C"⟩
def RJ9 : String := "java/lang/Math"
def TJ9 : u_T := fun k => match k with
  | _ => ("", "", "", false)
def tyJ9 : Nat → FieldType := fun k => match k with
  | _ => .int
abbrev wsJ90 : List Cond := u_ws RJ9 TJ9 0
theorem nmJ9 : ∀ a, a < 0 → ∀ b, b < 0 → a ≠ b → (TJ9 a).2.1 ≠ (TJ9 b).2.1 := by decide +kernel
theorem tyJ9_ok : ∀ k, k < 0 → parseFieldDescriptor (TJ9 k).2.2.1 = some (tyJ9 k) := by decide +kernel
abbrev cJ9_max_7cf53 : ByteArray := prog_11_method_65_code
def yJ9_max_7cf53 : MethodName := ⟨RJ9, "max", "(II)I"⟩
abbrev cJ9_min_7cf53 : ByteArray := prog_11_method_69_code
def yJ9_min_7cf53 : MethodName := ⟨RJ9, "min", "(II)I"⟩
def RJ0 : String := "java/lang/String"
def TJ0 : u_T := fun k => match k with
  | _ => ("", "", "", false)
def tyJ0 : Nat → FieldType := fun k => match k with
  | _ => .int
abbrev wsJ00 : List Cond := u_ws RJ0 TJ0 0
theorem nmJ0 : ∀ a, a < 0 → ∀ b, b < 0 → a ≠ b → (TJ0 a).2.1 ≠ (TJ0 b).2.1 := by decide +kernel
theorem tyJ0_ok : ∀ k, k < 0 → parseFieldDescriptor (TJ0 k).2.2.1 = some (tyJ0 k) := by decide +kernel
abbrev cJ0_length_8abf5 : ByteArray := prog_12_method_54_code
def yJ0_length_8abf5 : MethodName := ⟨RJ0, "length", "()I"⟩
abbrev cJ0_indexOf_0f7a4 : ByteArray := prog_12_method_79_code
def yJ0_indexOf_0f7a4 : MethodName := ⟨RJ0, "indexOf", "(I)I"⟩
abbrev cJ0_indexOf_7cf53 : ByteArray := prog_12_method_80_code
def yJ0_indexOf_7cf53 : MethodName := ⟨RJ0, "indexOf", "(II)I"⟩
abbrev cJ0_coder_7d493 : ByteArray := prog_12_method_152_code
def yJ0_coder_7d493 : MethodName := ⟨RJ0, "coder", "()B"⟩
abbrev cJ0_isLatin1_aae02 : ByteArray := prog_12_method_154_code
def yJ0_isLatin1_aae02 : MethodName := ⟨RJ0, "isLatin1", "()Z"⟩
abbrev cJ0_checkBoundsBeginEnd_23922 : ByteArray := prog_12_method_158_code
def yJ0_checkBoundsBeginEnd_23922 : MethodName := ⟨RJ0, "checkBoundsBeginEnd", "(III)V"⟩
def RJ1 : String := "java/lang/StringLatin1"
def TJ1 : u_T := fun k => match k with
  | _ => ("", "", "", false)
def tyJ1 : Nat → FieldType := fun k => match k with
  | _ => .int
abbrev wsJ10 : List Cond := u_ws RJ1 TJ1 0
theorem nmJ1 : ∀ a, a < 0 → ∀ b, b < 0 → a ≠ b → (TJ1 a).2.1 ≠ (TJ1 b).2.1 := by decide +kernel
theorem tyJ1_ok : ∀ k, k < 0 → parseFieldDescriptor (TJ1 k).2.2.1 = some (tyJ1 k) := by decide +kernel
abbrev cJ1_canEncode_9a6ad : ByteArray := prog_13_method_4_code
def yJ1_canEncode_9a6ad : MethodName := ⟨RJ1, "canEncode", "(I)Z"⟩
abbrev cJ1_indexOf_4cfef : ByteArray := prog_13_method_22_code
def yJ1_indexOf_4cfef : MethodName := ⟨RJ1, "indexOf", "([BIII)I"⟩
abbrev cJ1_indexOfChar_4cfef : ByteArray := prog_13_method_23_code
def yJ1_indexOfChar_4cfef : MethodName := ⟨RJ1, "indexOfChar", "([BIII)I"⟩
def RJ2 : String := "java/lang/StringUTF16"
def TJ2 : u_T := fun k => match k with
  | _ => ("", "", "", false)
def tyJ2 : Nat → FieldType := fun k => match k with
  | _ => .int
abbrev wsJ20 : List Cond := u_ws RJ2 TJ2 0
theorem nmJ2 : ∀ a, a < 0 → ∀ b, b < 0 → a ≠ b → (TJ2 a).2.1 ≠ (TJ2 b).2.1 := by decide +kernel
theorem tyJ2_ok : ∀ k, k < 0 → parseFieldDescriptor (TJ2 k).2.2.1 = some (tyJ2 k) := by decide +kernel
abbrev cJ2_getChar_3b067 : ByteArray := prog_14_method_5_code
def yJ2_getChar_3b067 : MethodName := ⟨RJ2, "getChar", "([BI)C"⟩
abbrev cJ2_length_9d52b : ByteArray := prog_14_method_6_code
def yJ2_length_9d52b : MethodName := ⟨RJ2, "length", "([B)I"⟩
abbrev cJ2_indexOf_4cfef : ByteArray := prog_14_method_40_code
def yJ2_indexOf_4cfef : MethodName := ⟨RJ2, "indexOf", "([BIII)I"⟩
abbrev cJ2_indexOfChar_4cfef : ByteArray := prog_14_method_47_code
def yJ2_indexOfChar_4cfef : MethodName := ⟨RJ2, "indexOfChar", "([BIII)I"⟩
abbrev cJ2_indexOfCharUnsafe_4cfef : ByteArray := prog_14_method_48_code
def yJ2_indexOfCharUnsafe_4cfef : MethodName := ⟨RJ2, "indexOfCharUnsafe", "([BIII)I"⟩
abbrev cJ2_indexOfSupplementary_4cfef : ByteArray := prog_14_method_49_code
def yJ2_indexOfSupplementary_4cfef : MethodName := ⟨RJ2, "indexOfSupplementary", "([BIII)I"⟩
abbrev cJ2_checkBoundsBeginEnd_d044e : ByteArray := prog_14_method_93_code
def yJ2_checkBoundsBeginEnd_d044e : MethodName := ⟨RJ2, "checkBoundsBeginEnd", "(II[B)V"⟩
def RJ10 : String := "java/lang/System"
def TJ10 : u_T := fun k => match k with
  | _ => ("", "", "", false)
def tyJ10 : Nat → FieldType := fun k => match k with
  | _ => .int
abbrev wsJ100 : List Cond := u_ws RJ10 TJ10 0
theorem nmJ10 : ∀ a, a < 0 → ∀ b, b < 0 → a ≠ b → (TJ10 a).2.1 ≠ (TJ10 b).2.1 := by decide +kernel
theorem tyJ10_ok : ∀ k, k < 0 → parseFieldDescriptor (TJ10 k).2.2.1 = some (tyJ10 k) := by decide +kernel
def RJ3 : String := "jdk/internal/util/Preconditions"
def TJ3 : u_T := fun k => match k with
  | _ => ("", "", "", false)
def tyJ3 : Nat → FieldType := fun k => match k with
  | _ => .int
abbrev wsJ30 : List Cond := u_ws RJ3 TJ3 0
theorem nmJ3 : ∀ a, a < 0 → ∀ b, b < 0 → a ≠ b → (TJ3 a).2.1 ≠ (TJ3 b).2.1 := by decide +kernel
theorem tyJ3_ok : ∀ k, k < 0 → parseFieldDescriptor (TJ3 k).2.2.1 = some (tyJ3 k) := by decide +kernel
abbrev cJ3_checkFromToIndex_8c36e : ByteArray := prog_16_method_12_code
def yJ3_checkFromToIndex_8c36e : MethodName := ⟨RJ3, "checkFromToIndex", "(IIILjava/util/function/BiFunction;)I"⟩
def RL : String := "TryLoopsLaw"
abbrev cL_law : ByteArray := code
def yL_law : MethodName := ⟨RL, "law", "([I)Z"⟩
abbrev vwCl : List vw_C := [(RX0, TX0, 2), (RX1, TX1, 3), (RX2, TX2, 2), (RX3, TX3, 7), (RX4, TX4, 8), (RX5, TX5, 4), (RX6, TX6, 8), (RX7, TX7, 14)]
end
section
/-! A layer over the kit: the world as ONE function from addresses to entries (Hp); a judgement V (W, with all that stays the same hidden); a contract Ct. -/
abbrev Hp : Type := Nat → Option va_E
abbrev GT : Type := va_G × ClassId × ClassId × ClassId × Nat × Nat
def gtys (G : GT) : List (ClassId × FieldType) := [(G.2.1, .int), (G.2.2.1, .char), (G.2.2.2.1, .object "TryLoops$State")]
def isNest : Cond → Bool
  | .fieldLinkNest _ _ _ _ _ _ => true
  | .methodLinkNest _ _ _ _ => true
  | _ => false
/-- the words of the tables that speak of nest mates -/
def lw_nw : List Cond := lw_tbl.filter isNest
theorem gn (i : Nat) {w : Cond} (h : lw_tbl[i]? = some w) (g : isNest w = true) : w ∈ lw_nw := List.mem_filter.mpr ⟨List.mem_of_getElem? h, g⟩
theorem nest_on {w : Cond} (h : isNest w = true) : w.onTables = true := by
  cases w <;> first | rfl | (cases h)
theorem nest_warm {w : Cond} {s U : State} (h : isNest w = true) (hW : s.WarmedH U.vm) (hZ : va_Nw w s) : va_Nw w U := by
  cases w with
  | fieldLinkNest => exact va_Nw.warmF hW hZ
  | methodLinkNest => exact va_Nw.warmM hW hZ
  | _ => cases h
/-- the String constant of the verbs, and the static that its methods ask -/
def SF (G : GT) (A : Nat → Prop) (U : State) (H : Heap) : Prop := vk_R "TryLoops$Text" 68 "gwacst" G.2.2.2.2.1 U ∧ va_Z "java/lang/String" "COMPACT_STRINGS" "Z" (.int 1) A U H ∧ vk_S 1 [6] [[103, 119, 97, 99, 115, 116]] (fun _ => G.2.2.2.2.1) (fun _ => G.2.2.2.2.2) A U H ∧ ∀ w ∈ lw_nw, va_Nw w U
def lw_gtb : List Cond := lw_tbl.filter goodWord
theorem gm (i : Nat) {w : Cond} (h : lw_tbl[i]? = some w) (g : goodWord w = true) : w ∈ lw_gtb := List.mem_filter.mpr ⟨List.mem_of_getElem? h, g⟩
def hset (h : Hp) (a : Nat) (e : va_E) : Hp := fun q => if q = a then some e else h q
theorem hset_s {h : Hp} {a : Nat} {e : va_E} : hset h a e a = some e := by simp [hset]
theorem hset_n {h : Hp} {a b : Nat} {e : va_E} (n : b ≠ a) : hset h a e b = h b := by simp [hset, n]
def hRel (h : Hp) (ws : va_W) : Prop := ∀ (a : Nat) (e : va_E), h a = some e ↔ ∃ k : Nat, ws[k]? = some (a, e)
def HH (D : va_G) (A : Nat → Prop) (h : Hp) (H : Heap) : Prop := ∃ ws : va_W, hRel h ws ∧ va_P D vwCl ws H ∧ va_D A ws
theorem hRel_set {A : Nat → Prop} {h : Hp} {ws : va_W} {q0 a : Nat} {e0 e1 : va_E} (hr : hRel h ws) (hD : va_D A ws) (hq : ws[q0]? = some (a, e0)) : hRel (hset h a e1) (ws.set q0 (a, e1)) := by
  have hl := (List.getElem?_eq_some_iff.mp hq).1
  intro b e
  constructor
  · intro hb
    by_cases hab : b = a
    · subst hab
      rw [hset_s] at hb
      cases hb
      exact ⟨q0, List.getElem?_set_self hl⟩
    · rw [hset_n hab] at hb
      obtain ⟨k, hk⟩ := (hr b e).mp hb
      refine ⟨k, ?_⟩
      rw [List.getElem?_set_ne]
      · exact hk
      · intro z
        subst z
        rw [hq] at hk
        cases hk
        exact hab rfl
  · intro ⟨k, hk⟩
    by_cases hkq : k = q0
    · subst hkq
      rw [List.getElem?_set_self hl] at hk
      cases hk
      exact hset_s
    · rw [List.getElem?_set_ne (Ne.symm hkq)] at hk
      have hab : b ≠ a := fun z => hkq (hD.1 k q0 _ _ hk hq z)
      rw [hset_n hab]
      exact (hr b e).mpr ⟨k, hk⟩
theorem hRel_push {D : va_G} {H : Heap} {h : Hp} {ws : va_W} {a : Nat} {e1 : va_E} (hr : hRel h ws) (hP : va_P D vwCl ws H) (ha : H.size ≤ a) : hRel (hset h a e1) (ws ++ [(a, e1)]) := by
  intro b e
  constructor
  · intro hb
    by_cases hab : b = a
    · subst hab
      rw [hset_s] at hb
      cases hb
      exact ⟨ws.length, by simp⟩
    · rw [hset_n hab] at hb
      obtain ⟨k, hk⟩ := (hr b e).mp hb
      exact ⟨k, by rw [List.getElem?_append_left (List.getElem?_eq_some_iff.mp hk).1]; exact hk⟩
  · intro ⟨k, hk⟩
    by_cases hl : k < ws.length
    · rw [List.getElem?_append_left hl] at hk
      have h1 := (hP k _ hk).lt
      have hab : b ≠ a := fun z => by subst z; exact absurd h1 (Nat.not_lt.mpr ha)
      rw [hset_n hab]
      exact (hr b e).mpr ⟨k, hk⟩
    · rw [List.getElem?_append_right (by omega)] at hk
      have hz : k - ws.length < 1 := (List.getElem?_eq_some_iff.mp hk).1
      rw [show k - ws.length = 0 by omega] at hk
      cases hk
      exact hset_s
theorem HH.at {D : va_G} {A : Nat → Prop} {h : Hp} {H : Heap} (hh : HH D A h H) {a : Nat} {e : va_E} (he : h a = some e) : va_at D vwCl (a, e) H := by
  obtain ⟨ws, hr, hP, hD⟩ := hh
  obtain ⟨k, hk⟩ := (hr a e).mp he
  exact hP k _ hk
theorem HH.lt {D : va_G} {A : Nat → Prop} {h : Hp} {H : Heap} (hh : HH D A h H) {a : Nat} {e : va_E} (he : h a = some e) : a < H.size := (hh.at he).lt
theorem HH.in {D : va_G} {A : Nat → Prop} {h : Hp} {H : Heap} (hh : HH D A h H) {a : Nat} {e : va_E} (he : h a = some e) : A a := by
  obtain ⟨ws, hr, hP, hD⟩ := hh
  obtain ⟨k, hk⟩ := (hr a e).mp he
  exact hD.2 k _ hk
/-- the cells a method may change -/
def Ax (h : Hp) (sz : Nat) : Nat → Prop := fun q => (∃ e, h q = some e) ∨ sz ≤ q
theorem HH.weaken {D : va_G} {A B : Nat → Prop} {h : Hp} {H : Heap} (hh : HH D A h H) (hAB : ∀ q, A q → B q) : HH D B h H := by
  obtain ⟨ws, hr, hP, hD⟩ := hh
  exact ⟨ws, hr, hP, hD.weaken (fun _ _ _ h => hAB _ h)⟩
theorem HH.self {D : va_G} {A : Nat → Prop} {h : Hp} {H : Heap} {sz : Nat} (hh : HH D A h H) : HH D (Ax h sz) h H := by
  obtain ⟨ws, hr, hP, hD⟩ := hh
  exact ⟨ws, hr, hP, hD.1, fun k q hk => Or.inl ⟨q.2, (hr q.1 q.2).mpr ⟨k, hk⟩⟩⟩
/-- locals as a list of places -/
def hasL (ls : Array Slot) (n : Nat) (L : List (Option Value)) : Prop := ls.size = n ∧ lv_wf ls ∧ L.length = n ∧ ∀ (i : Nat) (v : Value), L[i]? = some (some v) → ls[i]? = some (.val v) ∧ v.category = 1
def pairsL (L : List (Option Value)) : List (Nat × Value) := (List.range L.length).filterMap (fun i => match L[i]? with | some (some v) => some (i, v) | _ => none)
theorem mem_pairsL {L : List (Option Value)} {q : Nat × Value} : q ∈ pairsL L ↔ L[q.1]? = some (some q.2) := by
  unfold pairsL
  rw [List.mem_filterMap]
  constructor
  · rintro ⟨i, hi, h⟩
    split at h
    · rename_i v hv
      cases h
      exact hv
    · cases h
  · intro h
    refine ⟨q.1, List.mem_range.mpr (List.getElem?_eq_some_iff.mp h).1, ?_⟩
    rw [h]
theorem hasL.has {ls : Array Slot} {n : Nat} {L : List (Option Value)} (h : hasL ls n L) : lv_has ls n (pairsL L) := ⟨h.1, h.2.1, fun q hq => (h.2.2.2 q.1 q.2 (mem_pairsL.mp hq)).1⟩
theorem hasL.at {ls : Array Slot} {n : Nat} {L : List (Option Value)} (h : hasL ls n L) {i : Nat} {v : Value} (hi : L[i]? = some (some v)) : ls[i]? = some (.val v) := (h.2.2.2 i v hi).1
theorem hasL.stored {ls ls' : Array Slot} {n : Nat} {L : List (Option Value)} {i : Nat} {v : Value} (h : hasL ls n L) (hi : i < n) (hc : v.category = 1) (h' : lv_has ls' n ((i, v) :: (pairsL L).filter (fun q => !(q.1 == i) && !(q.1 + 1 == i && q.2.category == 2)))) : hasL ls' n (L.set i (some v)) := by
  refine ⟨h'.1, h'.2.1, by rw [List.length_set]; exact h.2.2.1, fun j x hj => ?_⟩
  by_cases hij : i = j
  · subst hij
    rw [List.getElem?_set_self (by rw [h.2.2.1]; exact hi)] at hj
    cases hj
    exact ⟨h'.2.2 (i, v) List.mem_cons_self, hc⟩
  · rw [List.getElem?_set_ne hij] at hj
    have hx := h.2.2.2 j x hj
    refine ⟨h'.2.2 (j, x) (List.mem_cons_of_mem _ (List.mem_filter.mpr ⟨mem_pairsL.mpr hj, ?_⟩)), hx.2⟩
    have hc2 : ¬ x.category = 2 := by omega
    simp [hc2, Ne.symm hij]
theorem hasL.weaken {ls : Array Slot} {n : Nat} {L L' : List (Option Value)} (h : hasL ls n L) (hn : L'.length = L.length) (hL : ∀ (i : Nat) (v : Value), L'[i]? = some (some v) → L[i]? = some (some v)) : hasL ls n L' :=
  ⟨h.1, h.2.1, hn.trans h.2.2.1, fun i v hi => h.2.2.2 i v (hL i v hi)⟩
/-- what stays the same in a method -/
def Cx (G : GT) (own mn : String) (cc : ByteArray) (mL : Nat) (ret : Option FieldType) (p : Program) (s : State) (m : MethodId) (args : Array Value) (meth : Method) (c : Code) : Prop :=
  p.tables.exec = Jvm.exec ∧ c.code = cc ∧ c.maxLocals = mL ∧ s.vm.findClass own = some m.cls ∧ meth.sig.returnType = ret ∧ meth.locks = false ∧ (∀ w ∈ lw_gtb, w.before args s = true) ∧ va_K G.1 vwCl (gtys G) s ∧ meth.name = mn
abbrev ET : Type := State → (Nat → Prop) → Array Value → Prop
abbrev QT : Type := Array Value → State → List Frame → (Nat → Prop) → State → Prop
def V (G : GT) (l : Launch) (own mn : String) (cc : ByteArray) (mL : Nat) (ret : Option FieldType) (R : Room) (E : ET) (Qc : QT) (sz k n pc : Nat) (L : List (Option Value)) (st : List Value) (h : Hp) : Prop :=
  ∀ (p : Program) (e : Env) (s : State) (m : MethodId) (args : Array Value) (below : List Frame) (meth : Method) (c : Code) (A : Nat → Prop) (H : Heap) (locs : List Loc) (ls : Array Slot),
    Cx G own mn cc mL ret p s m args meth c → E s A args → SF G A s s.heap → (s.heap.size = sz ∧ H.size = sz + k) → HH G.1 A h H → va_S A s.heap H locs → (∀ q, s.heap.size ≤ q → A q) → hasL ls mL L →
    W p l e R s m args below meth c H locs k n (Qc args s below A) (F0 m pc ls st)
def Qpost (G : GT) (Qf : Option Value → Hp → Prop) (sz mc : Nat) (A : Nat → Prop) : Array Value → State → Outcome → State → Prop := fun _ st o t => ∃ (r : Option Value) (h : Hp), o = .returned r ∧ Qf r h ∧ t.heap.size = sz + mc ∧ HH G.1 A h t.heap ∧ va_K G.1 vwCl (gtys G) t ∧ va_F A st t
def Qm (G : GT) (Qf : Option Value → Hp → Prop) (sz mc ms : Nat) : QT := fun args s below A => MQ below (Qpost G Qf sz mc A) args s mc ms A
def E0 : ET := fun _ _ _ => True
def rmd (d mc ms : Nat) : Room := { frames := d, cells := mc, slots := ms, locals := 31 * d }
def wsY (y : MethodName) (cc : ByteArray) (mL : Nat) (ret : Option FieldType) : List Cond := Cond.code y cc mL ret :: lw_gtb
def hPre (G : GT) (sz : Nat) (h : Hp) (U : State) : Prop := U.heap.size = sz ∧ HH G.1 (fun _ => True) h U.heap ∧ va_K G.1 vwCl (gtys G) U ∧ SF G (Ax h sz) U U.heap
/-- the contract of a method: from the world h it answers r and leaves h' with Qf r h' -/
def Ct (G : GT) (l : Launch) (y : MethodName) (cc : ByteArray) (mL : Nat) (ret : Option FieldType) (d mc ms sz : Nat) (av : List Value) (h : Hp) (Qf : Option Value → Hp → Prop) : Prop :=
  Met l y (wsY y cc mL ret) (rmd d mc ms) (va_Pc av (hPre G sz h)) (Qpost G Qf sz mc (Ax h sz)) mc ms (Ax h sz)
theorem good_wsY {y : MethodName} {cc : ByteArray} {mL : Nat} {ret : Option FieldType} (h : Cond.code y cc mL ret ∈ lw_gtb) : GoodIn lw_gtb (wsY y cc mL ret) := by
  intro w hw
  have hm : w ∈ lw_gtb := by
    rcases List.mem_cons.mp hw with rfl | h2
    · exact h
    · exact h2
  exact ⟨hm, good_of_word (List.mem_filter.mp hm).2⟩
theorem lg_cat1 : ∀ (vs : List Value), (∀ v ∈ vs, v.category = 1) → (lg_sl vs).length = vs.length ∧ ∀ (b i : Nat) (v : Value), vs[i]? = some v → (b + i, v) ∈ lv_args b vs := by
  intro vs
  induction vs with
  | nil => exact fun _ => ⟨rfl, fun b i v h => by simp at h⟩
  | cons x r ih =>
    intro h
    have hx := h x List.mem_cons_self
    have hx2 : ¬ x.category = 2 := by omega
    obtain ⟨e1, e2⟩ := ih (fun v hv => h v (List.mem_cons_of_mem _ hv))
    refine ⟨?_, fun b i v hv => ?_⟩
    · have : lg_sl (x :: r) = [.val x] ++ lg_sl r := by simp [lg_sl, hx2]
      rw [this, List.length_append, e1]
      simp
      omega
    · cases i with
      | zero =>
        simp at hv
        subst hv
        simp [lv_args]
      | succ i =>
        simp at hv
        have := e2 (b + 1) i v hv
        simp only [lv_args, if_neg hx2]
        refine List.mem_cons_of_mem _ ?_
        rw [show b + (i + 1) = b + 1 + i by omega]
        exact this
theorem entryL (vs : List Value) (n : Nat) (hv : ∀ v ∈ vs, v.category = 1) (hn : vs.length ≤ n) : hasL ((lg_sl vs ++ List.replicate (n - (lg_sl vs).length) Slot.unset).toArray) n (vs.map some ++ List.replicate (n - vs.length) none) := by
  obtain ⟨e1, e2⟩ := lg_cat1 vs hv
  have hl := lv_entry vs (n := n) (by rw [e1]; exact hn)
  refine ⟨hl.1, hl.2.1, by simp; omega, fun i v hi => ?_⟩
  by_cases h : i < vs.length
  · rw [List.getElem?_append_left (by simpa using h)] at hi
    rw [List.getElem?_map] at hi
    have hvi : vs[i]? = some v := by
      cases hx : vs[i]? with
      | none => rw [hx] at hi; simp at hi
      | some y => rw [hx] at hi; simp at hi; rw [hi]
    exact ⟨hl.2.2 (i, v) (by have := e2 0 i v hvi; simpa using this), hv v (List.mem_of_getElem? hvi)⟩
  · rw [List.getElem?_append_right (by simpa using h)] at hi
    rw [List.getElem?_replicate] at hi
    split at hi <;> simp at hi
/-- a contract out of a walk -/
theorem Ct.of {G : GT} {l : Launch} {y : MethodName} {cc : ByteArray} {mL : Nat} {ret : Option FieldType} {d mc ms sz : Nat} {av : List Value} {h : Hp} {Qf : Option Value → Hp → Prop} (hy : plainName y.cls = true) (hav : (av.all fun v => v.category == 1) = true) (hn : av.length ≤ mL)
    (body : V G l y.cls y.name cc mL ret (rmd d mc ms) E0 (Qm G Qf sz mc ms) sz 0 0 0 (av.map some ++ List.replicate (mL - av.length) none) [] h) : Ct G l y cc mL ret d mc ms sz av h Qf := by
  refine Met.ofW (cc := cc) (maxL := mL) (ret := ret) hy rfl ?_
  intro p e s m args below meth c s₁ B hml hv
  obtain ⟨rfl, hsz, hh, hK, hSF⟩ := hv
  have hts := atoms_spec (ws := wsY y cc mL ret) B.pre
  rw [lg_entry_eq]
  have hav' : ∀ v ∈ av, v.category = 1 := fun v hv => by simpa using List.all_eq_true.mp hav v hv
  exact body p e s m av.toArray below meth c (Ax h sz) s.heap [] _ ⟨B.exec, B.bytes, hml, findClass_of_methodNamed B.named, B.returns, B.notSynchronized, fun w hw => hts w (List.mem_cons_of_mem _ hw), hK, (name_of_methodNamed B.named B.method).1⟩ trivial hSF ⟨hsz, hsz⟩ hh.self va_S.rf (fun q hq => Or.inr (by rw [← hsz]; exact hq)) (entryL av mL hav' hn)
theorem Ct.weaken {G : GT} {l : Launch} {y : MethodName} {cc : ByteArray} {mL : Nat} {ret : Option FieldType} {d mc ms sz : Nat} {av : List Value} {h : Hp} {Qf Qg : Option Value → Hp → Prop} (hc : Ct G l y cc mL ret d mc ms sz av h Qf) (hq : ∀ r h', Qf r h' → Qg r h') : Ct G l y cc mL ret d mc ms sz av h Qg := by
  intro p e ha hcc hk s m args below hf hap hpre hK
  obtain ⟨t, o, a1, a2, a3, a4, a5⟩ := hc p e ha hcc hk s m args below hf hap hpre hK
  obtain ⟨r, h', b1, b2, b3⟩ := a4
  exact ⟨t, o, a1, a2, a3, ⟨r, h', b1, hq r h' b2, b3⟩, a5⟩
section ROWS
variable {G : GT} {l : Launch} {own mn : String} {cc : ByteArray} {mL : Nat} {ret : Option FieldType} {R : Room} {E : ET} {Qc : QT} {sz k n pc nx tg : Nat} {L : List (Option Value)} {st : List Value} {h : Hp}
def Dc (cc : ByteArray) (pc : Nat) (i : Instr) (len nx : Nat) : Prop := decode cc pc = .ok (i, len) ∧ pc + len = nx

theorem V_iconst {j : Int} {v : Int32} (hd : Dc cc pc (.iconst j) 1 nx) (hv : Int32.ofInt j = v)
    (kk : V G l own mn cc mL ret R E Qc sz k n nx L (.int v :: st) h) : V G l own mn cc mL ret R E Qc sz k n pc L (st) h := by
  obtain ⟨hd, rfl⟩ := hd
  intro p e s m args below meth c A H locs ls C hE hF hz hh hS hA hl
  exact lv_iconst C.1 C.2.1 hd hv (kk p e s m args below meth c A H locs ls C hE hF hz hh hS hA hl)
theorem V_bipush {j : Int} {v : Int32} (hd : Dc cc pc (.bipush j) 2 nx) (hv : (Int8.ofInt j).toInt32 = v)
    (kk : V G l own mn cc mL ret R E Qc sz k n nx L (.int v :: st) h) : V G l own mn cc mL ret R E Qc sz k n pc L (st) h := by
  obtain ⟨hd, rfl⟩ := hd
  intro p e s m args below meth c A H locs ls C hE hF hz hh hS hA hl
  exact lv_bipush C.1 C.2.1 hd hv (kk p e s m args below meth c A H locs ls C hE hF hz hh hS hA hl)
theorem V_sipush {j : Int} {v : Int32} (hd : Dc cc pc (.sipush j) 3 nx) (hv : (Int16.ofInt j).toInt32 = v)
    (kk : V G l own mn cc mL ret R E Qc sz k n nx L (.int v :: st) h) : V G l own mn cc mL ret R E Qc sz k n pc L (st) h := by
  obtain ⟨hd, rfl⟩ := hd
  intro p e s m args below meth c A H locs ls C hE hF hz hh hS hA hl
  exact lv_sipush C.1 C.2.1 hd hv (kk p e s m args below meth c A H locs ls C hE hF hz hh hS hA hl)
theorem V_iload_n {j : Fin 4} {x : Int32} (hd : Dc cc pc (.iload_n j) 1 nx) (hL : L[(j : Nat)]? = some (some (.int x)))
    (kk : V G l own mn cc mL ret R E Qc sz k n nx L (.int x :: st) h) : V G l own mn cc mL ret R E Qc sz k n pc L (st) h := by
  obtain ⟨hd, rfl⟩ := hd
  intro p e s m args below meth c A H locs ls C hE hF hz hh hS hA hl
  exact lv_iload_n C.1 C.2.1 hd rfl (hl.at hL) (kk p e s m args below meth c A H locs ls C hE hF hz hh hS hA hl)
theorem V_iload {j : Nat} {x : Int32} (hd : Dc cc pc (.iload j) 2 nx) (hL : L[j]? = some (some (.int x)))
    (kk : V G l own mn cc mL ret R E Qc sz k n nx L (.int x :: st) h) : V G l own mn cc mL ret R E Qc sz k n pc L (st) h := by
  obtain ⟨hd, rfl⟩ := hd
  intro p e s m args below meth c A H locs ls C hE hF hz hh hS hA hl
  exact lv_iload C.1 C.2.1 hd (hl.at hL) (kk p e s m args below meth c A H locs ls C hE hF hz hh hS hA hl)
theorem V_aload_n {j : Fin 4} {x : Nat} (hd : Dc cc pc (.aload_n j) 1 nx) (hL : L[(j : Nat)]? = some (some (.ref x)))
    (kk : V G l own mn cc mL ret R E Qc sz k n nx L (.ref x :: st) h) : V G l own mn cc mL ret R E Qc sz k n pc L (st) h := by
  obtain ⟨hd, rfl⟩ := hd
  intro p e s m args below meth c A H locs ls C hE hF hz hh hS hA hl
  exact lv_aload_n C.1 C.2.1 hd rfl (hl.at hL) (kk p e s m args below meth c A H locs ls C hE hF hz hh hS hA hl)
theorem V_aload {j : Nat} {x : Nat} (hd : Dc cc pc (.aload j) 2 nx) (hL : L[j]? = some (some (.ref x)))
    (kk : V G l own mn cc mL ret R E Qc sz k n nx L (.ref x :: st) h) : V G l own mn cc mL ret R E Qc sz k n pc L (st) h := by
  obtain ⟨hd, rfl⟩ := hd
  intro p e s m args below meth c A H locs ls C hE hF hz hh hS hA hl
  exact lv_aload C.1 C.2.1 hd (hl.at hL) (kk p e s m args below meth c A H locs ls C hE hF hz hh hS hA hl)
theorem V_istore_n {j : Fin 4} {x : Int32} {L' : List (Option Value)} (hd : Dc cc pc (.istore_n j) 1 nx) (hi : (j : Nat) < mL) (hL' : L.set (j : Nat) (some (.int x)) = L')
    (kk : V G l own mn cc mL ret R E Qc sz k n nx L' st h) : V G l own mn cc mL ret R E Qc sz k n pc L (.int x :: st) h := by
  obtain ⟨hd, rfl⟩ := hd
  subst hL'
  intro p e s m args below meth c A H locs ls C hE hF hz hh hS hA hl
  exact lv_istore_n C.1 C.2.1 hd rfl hl.has hi rfl (fun ls' hl' => kk p e s m args below meth c A H locs ls' C hE hF hz hh hS hA (hl.stored hi rfl hl'))
theorem V_istore {j : Nat} {x : Int32} {L' : List (Option Value)} (hd : Dc cc pc (.istore j) 2 nx) (hi : j < mL) (hL' : L.set j (some (.int x)) = L')
    (kk : V G l own mn cc mL ret R E Qc sz k n nx L' st h) : V G l own mn cc mL ret R E Qc sz k n pc L (.int x :: st) h := by
  obtain ⟨hd, rfl⟩ := hd
  subst hL'
  intro p e s m args below meth c A H locs ls C hE hF hz hh hS hA hl
  exact lv_istore C.1 C.2.1 hd hl.has hi rfl (fun ls' hl' => kk p e s m args below meth c A H locs ls' C hE hF hz hh hS hA (hl.stored hi rfl hl'))
theorem V_astore_n {j : Fin 4} {x : Nat} {L' : List (Option Value)} (hd : Dc cc pc (.astore_n j) 1 nx) (hi : (j : Nat) < mL) (hL' : L.set (j : Nat) (some (.ref x)) = L')
    (kk : V G l own mn cc mL ret R E Qc sz k n nx L' st h) : V G l own mn cc mL ret R E Qc sz k n pc L (.ref x :: st) h := by
  obtain ⟨hd, rfl⟩ := hd
  subst hL'
  intro p e s m args below meth c A H locs ls C hE hF hz hh hS hA hl
  exact lv_astore_n C.1 C.2.1 hd rfl hl.has hi rfl (fun ls' hl' => kk p e s m args below meth c A H locs ls' C hE hF hz hh hS hA (hl.stored hi rfl hl'))
theorem V_astore {j : Nat} {x : Nat} {L' : List (Option Value)} (hd : Dc cc pc (.astore j) 2 nx) (hi : j < mL) (hL' : L.set j (some (.ref x)) = L')
    (kk : V G l own mn cc mL ret R E Qc sz k n nx L' st h) : V G l own mn cc mL ret R E Qc sz k n pc L (.ref x :: st) h := by
  obtain ⟨hd, rfl⟩ := hd
  subst hL'
  intro p e s m args below meth c A H locs ls C hE hF hz hh hS hA hl
  exact lv_astore C.1 C.2.1 hd hl.has hi rfl (fun ls' hl' => kk p e s m args below meth c A H locs ls' C hE hF hz hh hS hA (hl.stored hi rfl hl'))
theorem V_iinc {j : Nat} {i : Int} {x v : Int32} {L' : List (Option Value)} (hd : Dc cc pc (.iinc j i) 3 nx) (hL : L[j]? = some (some (.int x))) (hv : x + Int32.ofInt i = v) (hi : j < mL) (hL' : L.set j (some (.int v)) = L')
    (kk : V G l own mn cc mL ret R E Qc sz k n nx L' st h) : V G l own mn cc mL ret R E Qc sz k n pc L st h := by
  obtain ⟨hd, rfl⟩ := hd
  subst hL'
  intro p e s m args below meth c A H locs ls C hE hF hz hh hS hA hl
  obtain ⟨q, hq⟩ := List.getElem?_of_mem ((mem_pairsL (q := (j, Value.int x))).mpr hL)
  exact lv_iinc C.1 C.2.1 hd hl.has hq hv hi rfl (fun ls' hl' => kk p e s m args below meth c A H locs ls' C hE hF hz hh hS hA (hl.stored hi rfl hl'))
theorem V_iadd {x y : Int32} (hd : Dc cc pc (.iadd) 1 nx)
    (kk : V G l own mn cc mL ret R E Qc sz k n nx L (.int (x + y) :: st) h) : V G l own mn cc mL ret R E Qc sz k n pc L (.int y :: .int x :: st) h := by
  obtain ⟨hd, rfl⟩ := hd
  intro p e s m args below meth c A H locs ls C hE hF hz hh hS hA hl
  exact lv_iadd C.1 C.2.1 hd (kk p e s m args below meth c A H locs ls C hE hF hz hh hS hA hl)
theorem V_isub {x y : Int32} (hd : Dc cc pc (.isub) 1 nx)
    (kk : V G l own mn cc mL ret R E Qc sz k n nx L (.int (x - y) :: st) h) : V G l own mn cc mL ret R E Qc sz k n pc L (.int y :: .int x :: st) h := by
  obtain ⟨hd, rfl⟩ := hd
  intro p e s m args below meth c A H locs ls C hE hF hz hh hS hA hl
  exact lv_isub C.1 C.2.1 hd (kk p e s m args below meth c A H locs ls C hE hF hz hh hS hA hl)
theorem V_imul {x y : Int32} (hd : Dc cc pc (.imul) 1 nx)
    (kk : V G l own mn cc mL ret R E Qc sz k n nx L (.int (x * y) :: st) h) : V G l own mn cc mL ret R E Qc sz k n pc L (.int y :: .int x :: st) h := by
  obtain ⟨hd, rfl⟩ := hd
  intro p e s m args below meth c A H locs ls C hE hF hz hh hS hA hl
  exact lv_imul C.1 C.2.1 hd (kk p e s m args below meth c A H locs ls C hE hF hz hh hS hA hl)
theorem V_iand {x y : Int32} (hd : Dc cc pc (.iand) 1 nx)
    (kk : V G l own mn cc mL ret R E Qc sz k n nx L (.int (x &&& y) :: st) h) : V G l own mn cc mL ret R E Qc sz k n pc L (.int y :: .int x :: st) h := by
  obtain ⟨hd, rfl⟩ := hd
  intro p e s m args below meth c A H locs ls C hE hF hz hh hS hA hl
  exact lv_iand C.1 C.2.1 hd (kk p e s m args below meth c A H locs ls C hE hF hz hh hS hA hl)
theorem V_ineg {x : Int32} (hd : Dc cc pc (.ineg) 1 nx)
    (kk : V G l own mn cc mL ret R E Qc sz k n nx L (.int (-x) :: st) h) : V G l own mn cc mL ret R E Qc sz k n pc L (.int x :: st) h := by
  obtain ⟨hd, rfl⟩ := hd
  intro p e s m args below meth c A H locs ls C hE hF hz hh hS hA hl
  exact lv_ineg C.1 C.2.1 hd (kk p e s m args below meth c A H locs ls C hE hF hz hh hS hA hl)
theorem V_idiv {x y : Int32} (hd : Dc cc pc (.idiv) 1 nx) (hy : ¬ y = 0)
    (kk : V G l own mn cc mL ret R E Qc sz k n nx L (.int (x / y) :: st) h) : V G l own mn cc mL ret R E Qc sz k n pc L (.int y :: .int x :: st) h := by
  obtain ⟨hd, rfl⟩ := hd
  intro p e s m args below meth c A H locs ls C hE hF hz hh hS hA hl
  exact lv_idiv C.1 C.2.1 hd hy (kk p e s m args below meth c A H locs ls C hE hF hz hh hS hA hl)
theorem V_irem {x y : Int32} (hd : Dc cc pc (.irem) 1 nx) (hy : ¬ y = 0)
    (kk : V G l own mn cc mL ret R E Qc sz k n nx L (.int (x - x / y * y) :: st) h) : V G l own mn cc mL ret R E Qc sz k n pc L (.int y :: .int x :: st) h := by
  obtain ⟨hd, rfl⟩ := hd
  intro p e s m args below meth c A H locs ls C hE hF hz hh hS hA hl
  exact lv_irem C.1 C.2.1 hd hy (kk p e s m args below meth c A H locs ls C hE hF hz hh hS hA hl)
theorem V_i2c {x v : Int32} (hd : Dc cc pc (.i2c) 1 nx) (hv : (x.toUInt32 % 65536).toInt32 = v)
    (kk : V G l own mn cc mL ret R E Qc sz k n nx L (.int v :: st) h) : V G l own mn cc mL ret R E Qc sz k n pc L (.int x :: st) h := by
  obtain ⟨hd, rfl⟩ := hd
  intro p e s m args below meth c A H locs ls C hE hF hz hh hS hA hl
  exact lv_i2c C.1 C.2.1 hd hv (kk p e s m args below meth c A H locs ls C hE hF hz hh hS hA hl)
theorem V_dup {a : Value} (hd : Dc cc pc (.dup) 1 nx) (ha : a.category = 1)
    (kk : V G l own mn cc mL ret R E Qc sz k n nx L (a :: a :: st) h) : V G l own mn cc mL ret R E Qc sz k n pc L (a :: st) h := by
  obtain ⟨hd, rfl⟩ := hd
  intro p e s m args below meth c A H locs ls C hE hF hz hh hS hA hl
  exact lv_dup C.1 C.2.1 hd ha (kk p e s m args below meth c A H locs ls C hE hF hz hh hS hA hl)
theorem V_pop {a : Value} (hd : Dc cc pc (.pop) 1 nx) (ha : a.category = 1)
    (kk : V G l own mn cc mL ret R E Qc sz k n nx L (st) h) : V G l own mn cc mL ret R E Qc sz k n pc L (a :: st) h := by
  obtain ⟨hd, rfl⟩ := hd
  intro p e s m args below meth c A H locs ls C hE hF hz hh hS hA hl
  exact lv_pop C.1 C.2.1 hd ha (kk p e s m args below meth c A H locs ls C hE hF hz hh hS hA hl)
theorem V_dup2 {a b : Value} (hd : Dc cc pc (.dup2) 1 nx) (ha : a.category = 1) (hb : b.category = 1)
    (kk : V G l own mn cc mL ret R E Qc sz k n nx L (a :: b :: a :: b :: st) h) : V G l own mn cc mL ret R E Qc sz k n pc L (a :: b :: st) h := by
  obtain ⟨hd, rfl⟩ := hd
  intro p e s m args below meth c A H locs ls C hE hF hz hh hS hA hl
  exact lv_dup2_11 C.1 C.2.1 hd ha hb (kk p e s m args below meth c A H locs ls C hE hF hz hh hS hA hl)
theorem V_top {x : Int32} (kk : ∀ y : Int32, y = x → V G l own mn cc mL ret R E Qc sz k n pc L (.int y :: st) h) : V G l own mn cc mL ret R E Qc sz k n pc L (.int x :: st) h := kk x rfl
theorem V_toe {x y : Int32} (e : x = y) (kk : V G l own mn cc mL ret R E Qc sz k n pc L (.int y :: st) h) : V G l own mn cc mL ret R E Qc sz k n pc L (.int x :: st) h := e ▸ kk
theorem V_loc {L' : List (Option Value)} (hn : L'.length = L.length) (hL : ∀ (i : Nat) (v : Value), L'[i]? = some (some v) → L[i]? = some (some v)) (kk : V G l own mn cc mL ret R E Qc sz k n pc L' st h) : V G l own mn cc mL ret R E Qc sz k n pc L st h :=
  fun p e s m args below meth c A H locs ls C hE hF hz hh hS hA hl => kk p e s m args below meth c A H locs ls C hE hF hz hh hS hA (hl.weaken hn hL)
def Db (cc : ByteArray) (pc : Nat) (i : Int → Instr) (nx tg : Nat) : Prop := ∃ off : Int, decode cc pc = .ok (i off, 3) ∧ pc + 3 = nx ∧ (pc : Int) + off = (tg : Int)
theorem V_goto (hd : Db cc pc .goto nx tg) (kk : V G l own mn cc mL ret R E Qc sz k n tg L st h) : V G l own mn cc mL ret R E Qc sz k n pc L st h := by
  obtain ⟨off, hd, rfl, ht⟩ := hd
  intro p e s m args below meth c A H locs ls C hE hF hz hh hS hA hl
  exact lv_goto C.1 C.2.1 hd ht (kk p e s m args below meth c A H locs ls C hE hF hz hh hS hA hl)
theorem V_ifnull {x : Nat} (hd : Db cc pc .ifnull nx tg) (kk : V G l own mn cc mL ret R E Qc sz k n nx L st h) : V G l own mn cc mL ret R E Qc sz k n pc L (.ref x :: st) h := by
  obtain ⟨off, hd, rfl, ht⟩ := hd
  intro p e s m args below meth c A H locs ls C hE hF hz hh hS hA hl
  exact lv_ifnull C.1 C.2.1 hd (kk p e s m args below meth c A H locs ls C hE hF hz hh hS hA hl)
theorem V_ifnonnull {x : Nat} (hd : Db cc pc .ifnonnull nx tg) (kk : V G l own mn cc mL ret R E Qc sz k n tg L st h) : V G l own mn cc mL ret R E Qc sz k n pc L (.ref x :: st) h := by
  obtain ⟨off, hd, rfl, ht⟩ := hd
  intro p e s m args below meth c A H locs ls C hE hF hz hh hS hA hl
  exact lv_ifnonnull C.1 C.2.1 hd ht (kk p e s m args below meth c A H locs ls C hE hF hz hh hS hA hl)
theorem V_icmp_eq {x y : Int32} (hd : Db cc pc (fun o => .if_icmp .eq o) nx tg) (kt : x = y → V G l own mn cc mL ret R E Qc sz k n tg L st h) (kf : ¬ (x = y) → V G l own mn cc mL ret R E Qc sz k n nx L st h) : V G l own mn cc mL ret R E Qc sz k n pc L (.int y :: .int x :: st) h := by
  obtain ⟨off, hd, rfl, ht⟩ := hd
  intro p e s m args below meth c A H locs ls C hE hF hz hh hS hA hl
  exact lv_icmp_eq C.1 C.2.1 hd ht (fun z => kt z p e s m args below meth c A H locs ls C hE hF hz hh hS hA hl) (fun z => kf z p e s m args below meth c A H locs ls C hE hF hz hh hS hA hl)
theorem V_if_eq {x : Int32} (hd : Db cc pc (fun o => .ifCond .eq o) nx tg) (kt : x = 0 → V G l own mn cc mL ret R E Qc sz k n tg L st h) (kf : ¬ (x = 0) → V G l own mn cc mL ret R E Qc sz k n nx L st h) : V G l own mn cc mL ret R E Qc sz k n pc L (.int x :: st) h := by
  obtain ⟨off, hd, rfl, ht⟩ := hd
  intro p e s m args below meth c A H locs ls C hE hF hz hh hS hA hl
  exact lv_if_eq C.1 C.2.1 hd ht (fun z => kt z p e s m args below meth c A H locs ls C hE hF hz hh hS hA hl) (fun z => kf z p e s m args below meth c A H locs ls C hE hF hz hh hS hA hl)
theorem V_icmp_ne {x y : Int32} (hd : Db cc pc (fun o => .if_icmp .ne o) nx tg) (kt : ¬ x = y → V G l own mn cc mL ret R E Qc sz k n tg L st h) (kf : x = y → V G l own mn cc mL ret R E Qc sz k n nx L st h) : V G l own mn cc mL ret R E Qc sz k n pc L (.int y :: .int x :: st) h := by
  obtain ⟨off, hd, rfl, ht⟩ := hd
  intro p e s m args below meth c A H locs ls C hE hF hz hh hS hA hl
  exact lv_icmp_ne C.1 C.2.1 hd ht (fun z => kt z p e s m args below meth c A H locs ls C hE hF hz hh hS hA hl) (fun z => kf z p e s m args below meth c A H locs ls C hE hF hz hh hS hA hl)
theorem V_if_ne {x : Int32} (hd : Db cc pc (fun o => .ifCond .ne o) nx tg) (kt : ¬ x = 0 → V G l own mn cc mL ret R E Qc sz k n tg L st h) (kf : x = 0 → V G l own mn cc mL ret R E Qc sz k n nx L st h) : V G l own mn cc mL ret R E Qc sz k n pc L (.int x :: st) h := by
  obtain ⟨off, hd, rfl, ht⟩ := hd
  intro p e s m args below meth c A H locs ls C hE hF hz hh hS hA hl
  exact lv_if_ne C.1 C.2.1 hd ht (fun z => kt z p e s m args below meth c A H locs ls C hE hF hz hh hS hA hl) (fun z => kf z p e s m args below meth c A H locs ls C hE hF hz hh hS hA hl)
theorem V_icmp_lt {x y : Int32} (hd : Db cc pc (fun o => .if_icmp .lt o) nx tg) (kt : x < y → V G l own mn cc mL ret R E Qc sz k n tg L st h) (kf : ¬ (x < y) → V G l own mn cc mL ret R E Qc sz k n nx L st h) : V G l own mn cc mL ret R E Qc sz k n pc L (.int y :: .int x :: st) h := by
  obtain ⟨off, hd, rfl, ht⟩ := hd
  intro p e s m args below meth c A H locs ls C hE hF hz hh hS hA hl
  exact lv_icmp_lt C.1 C.2.1 hd ht (fun z => kt z p e s m args below meth c A H locs ls C hE hF hz hh hS hA hl) (fun z => kf z p e s m args below meth c A H locs ls C hE hF hz hh hS hA hl)
theorem V_if_lt {x : Int32} (hd : Db cc pc (fun o => .ifCond .lt o) nx tg) (kt : x < 0 → V G l own mn cc mL ret R E Qc sz k n tg L st h) (kf : ¬ (x < 0) → V G l own mn cc mL ret R E Qc sz k n nx L st h) : V G l own mn cc mL ret R E Qc sz k n pc L (.int x :: st) h := by
  obtain ⟨off, hd, rfl, ht⟩ := hd
  intro p e s m args below meth c A H locs ls C hE hF hz hh hS hA hl
  exact lv_if_lt C.1 C.2.1 hd ht (fun z => kt z p e s m args below meth c A H locs ls C hE hF hz hh hS hA hl) (fun z => kf z p e s m args below meth c A H locs ls C hE hF hz hh hS hA hl)
theorem V_icmp_ge {x y : Int32} (hd : Db cc pc (fun o => .if_icmp .ge o) nx tg) (kt : y ≤ x → V G l own mn cc mL ret R E Qc sz k n tg L st h) (kf : ¬ (y ≤ x) → V G l own mn cc mL ret R E Qc sz k n nx L st h) : V G l own mn cc mL ret R E Qc sz k n pc L (.int y :: .int x :: st) h := by
  obtain ⟨off, hd, rfl, ht⟩ := hd
  intro p e s m args below meth c A H locs ls C hE hF hz hh hS hA hl
  exact lv_icmp_ge C.1 C.2.1 hd ht (fun z => kt z p e s m args below meth c A H locs ls C hE hF hz hh hS hA hl) (fun z => kf z p e s m args below meth c A H locs ls C hE hF hz hh hS hA hl)
theorem V_if_ge {x : Int32} (hd : Db cc pc (fun o => .ifCond .ge o) nx tg) (kt : 0 ≤ x → V G l own mn cc mL ret R E Qc sz k n tg L st h) (kf : ¬ (0 ≤ x) → V G l own mn cc mL ret R E Qc sz k n nx L st h) : V G l own mn cc mL ret R E Qc sz k n pc L (.int x :: st) h := by
  obtain ⟨off, hd, rfl, ht⟩ := hd
  intro p e s m args below meth c A H locs ls C hE hF hz hh hS hA hl
  exact lv_if_ge C.1 C.2.1 hd ht (fun z => kt z p e s m args below meth c A H locs ls C hE hF hz hh hS hA hl) (fun z => kf z p e s m args below meth c A H locs ls C hE hF hz hh hS hA hl)
theorem V_icmp_gt {x y : Int32} (hd : Db cc pc (fun o => .if_icmp .gt o) nx tg) (kt : y < x → V G l own mn cc mL ret R E Qc sz k n tg L st h) (kf : ¬ (y < x) → V G l own mn cc mL ret R E Qc sz k n nx L st h) : V G l own mn cc mL ret R E Qc sz k n pc L (.int y :: .int x :: st) h := by
  obtain ⟨off, hd, rfl, ht⟩ := hd
  intro p e s m args below meth c A H locs ls C hE hF hz hh hS hA hl
  exact lv_icmp_gt C.1 C.2.1 hd ht (fun z => kt z p e s m args below meth c A H locs ls C hE hF hz hh hS hA hl) (fun z => kf z p e s m args below meth c A H locs ls C hE hF hz hh hS hA hl)
theorem V_if_gt {x : Int32} (hd : Db cc pc (fun o => .ifCond .gt o) nx tg) (kt : 0 < x → V G l own mn cc mL ret R E Qc sz k n tg L st h) (kf : ¬ (0 < x) → V G l own mn cc mL ret R E Qc sz k n nx L st h) : V G l own mn cc mL ret R E Qc sz k n pc L (.int x :: st) h := by
  obtain ⟨off, hd, rfl, ht⟩ := hd
  intro p e s m args below meth c A H locs ls C hE hF hz hh hS hA hl
  exact lv_if_gt C.1 C.2.1 hd ht (fun z => kt z p e s m args below meth c A H locs ls C hE hF hz hh hS hA hl) (fun z => kf z p e s m args below meth c A H locs ls C hE hF hz hh hS hA hl)
theorem V_icmp_le {x y : Int32} (hd : Db cc pc (fun o => .if_icmp .le o) nx tg) (kt : x ≤ y → V G l own mn cc mL ret R E Qc sz k n tg L st h) (kf : ¬ (x ≤ y) → V G l own mn cc mL ret R E Qc sz k n nx L st h) : V G l own mn cc mL ret R E Qc sz k n pc L (.int y :: .int x :: st) h := by
  obtain ⟨off, hd, rfl, ht⟩ := hd
  intro p e s m args below meth c A H locs ls C hE hF hz hh hS hA hl
  exact lv_icmp_le C.1 C.2.1 hd ht (fun z => kt z p e s m args below meth c A H locs ls C hE hF hz hh hS hA hl) (fun z => kf z p e s m args below meth c A H locs ls C hE hF hz hh hS hA hl)
theorem V_if_le {x : Int32} (hd : Db cc pc (fun o => .ifCond .le o) nx tg) (kt : x ≤ 0 → V G l own mn cc mL ret R E Qc sz k n tg L st h) (kf : ¬ (x ≤ 0) → V G l own mn cc mL ret R E Qc sz k n nx L st h) : V G l own mn cc mL ret R E Qc sz k n pc L (.int x :: st) h := by
  obtain ⟨off, hd, rfl, ht⟩ := hd
  intro p e s m args below meth c A H locs ls C hE hF hz hh hS hA hl
  exact lv_if_le C.1 C.2.1 hd ht (fun z => kt z p e s m args below meth c A H locs ls C hE hF hz hh hS hA hl) (fun z => kf z p e s m args below meth c A H locs ls C hE hF hz hh hS hA hl)
end ROWS
end
section
/-! Rows of V over the memory, calls, returns. -/
theorem va_S.tr {A : Nat → Prop} {H0 H H1 : Heap} {l0 l1 : List Loc} (h : va_S A H0 H l0) (h1 : va_S A H H1 l1) : va_S A H0 H1 l1 :=
  ⟨Nat.le_trans h.1 h1.1, fun q a b => (h1.2.1 q (Nat.lt_of_lt_of_le a h.1) b).trans (h.2.1 q a b), h1.2.2⟩
theorem va_S.at {A : Nat → Prop} {H0 H : Heap} {l0 : List Loc} (h : va_S A H0 H l0) : va_S A H H l0 := ⟨Nat.le_refl _, fun _ _ _ => rfl, h.2.2⟩
def CK (ci : Nat) (C : String) (T : u_T) (ty : Nat → FieldType) (N : Nat) : Prop := vwCl[ci]? = some (C, T, N) ∧ (∀ w ∈ u_ws C T N, w ∈ lw_gtb) ∧ (∀ k, k < N → parseFieldDescriptor (T k).2.2.1 = some (ty k)) ∧ (∀ a, a < N → ∀ b, b < N → a ≠ b → (T a).2.1 ≠ (T b).2.1)
def FL (own : String) (idx ci k : Nat) (ty : FieldType) (fin : Bool) : Prop := ∃ (C : String) (T : u_T) (tyf : Nat → FieldType) (N : Nat), CK ci C T tyf N ∧ k < N ∧ tyf k = ty ∧ (T k).2.2.2 = fin ∧ (T k).1 = C ∧
  (Cond.fieldLink own idx C (T k).2.1 (T k).2.2.1 ∈ lw_gtb ∨ ∃ host, Cond.fieldLinkNest own idx C (T k).2.1 (T k).2.2.1 host ∈ lw_nw)
/-- what a callee needs of the tables -/
def Yk (y : MethodName) (cc : ByteArray) (mL : Nat) (ret : Option FieldType) (n : Nat) : Prop := Cond.code y cc mL ret ∈ lw_gtb ∧ Cond.initialized y.cls ∈ lw_gtb ∧ (y.cls ≠ "java/lang/invoke/MethodHandle" ∧ y.cls ≠ "java/lang/invoke/VarHandle" ∧ (parseMethodDescriptor y.desc).map (fun d => d.parameters.length) = some n)
def LkV (own : String) (idx : Nat) (y : MethodName) : Prop := (Cond.methodLink own idx y ∈ lw_gtb ∨ ∃ host, Cond.methodLinkNest own idx y host ∈ lw_nw) ∧ Cond.instanceMethod y ∈ lw_gtb ∧ Cond.selects y.cls y y ∈ lw_gtb
def LkS (own : String) (idx : Nat) (y : MethodName) : Prop := (Cond.methodLink own idx y ∈ lw_gtb ∨ ∃ host, Cond.methodLinkNest own idx y host ∈ lw_nw) ∧ Cond.static y ∈ lw_gtb
def LkI (own : String) (idx : Nat) (y : MethodName) : Prop := (Cond.methodLink own idx y ∈ lw_gtb ∨ ∃ host, Cond.methodLinkNest own idx y host ∈ lw_nw) ∧ Cond.instanceMethod y ∈ lw_gtb ∧ y.name = "<init>"
theorem SF.narrow {G : GT} {A B : Nat → Prop} {U : State} {H : Heap} (h : SF G A U H) (hAB : ∀ q, B q → A q) : SF G B U H := ⟨h.1, h.2.1.narrow hAB, h.2.2.1.narrow hAB, h.2.2.2⟩
theorem SF.kept {G : GT} {A : Nat → Prop} {U : State} {H H1 : Heap} (h : SF G A U H) (hq : ∀ a : Nat, a < H.size → ¬ A a → H1[a]? = H[a]?) : SF G A U H1 := ⟨h.1, h.2.1.kept hq, h.2.2.1.kept hq, h.2.2.2⟩
theorem SF.warm {G : GT} {A : Nat → Prop} {s U : State} {H : Heap} (hW : s.WarmedH U.vm) (h : SF G A s H) : SF G A U H := ⟨h.1.warm hW, h.2.1.moved hW.alike, h.2.2.1.moved hW.alike, fun w hw => nest_warm (List.mem_filter.mp hw).2 hW (h.2.2.2 w hw)⟩
theorem SF.calling {G : GT} {A : Nat → Prop} {a : Array Value} {U : State} {H : Heap} {g : JFrame} {mk : MethodId} (h : SF G A U H) : SF G A (U.calling g mk a) H := ⟨vk_R.same rfl h.1, h.2.1.moved (Vm.Alike.refl U.vm), h.2.2.1.moved (Vm.Alike.refl U.vm), fun w hw => va_Nw.same (u := U) (nest_on (List.mem_filter.mp hw).2) rfl (h.2.2.2 w hw)⟩
abbrev iA (G : GT) (n : Nat) (f : Nat → Int32) : va_E := .inl (G.2.1, n, .inl f)
abbrev chA (G : GT) (n : Nat) (f : Nat → Int32) : va_E := .inl (G.2.2.1, n, .inl f)
abbrev sA (G : GT) (n : Nat) (f : Nat → Option Nat) : va_E := .inl (G.2.2.2.1, n, .inr (.inr (.inr (.inr f))))
abbrev ob (ci : Nat) (fs : List Value) : va_E := .inr (ci, fs)
section ROWS2
variable {G : GT} {l : Launch} {own mn : String} {cc : ByteArray} {mL : Nat} {ret : Option FieldType} {R : Room} {E : ET} {Qc : QT} {sz k n pc nx tg : Nat} {L : List (Option Value)} {st : List Value} {h : Hp}
theorem hPre.blind {sz : Nat} {h : Hp} {av : List Value} : FrameBlind (va_Pc av (hPre G sz h)) := by
  intro a U g mk hq
  obtain ⟨q0, q1, q2, q3, q4⟩ := hq
  exact ⟨q0, q1, q2, va_K.moved (u := U) (U := U.calling g mk a) (Vm.Alike.refl U.vm) q3, q4.calling⟩
theorem W_sz {p : Program} {l : Launch} {e : Env} {R : Room} {s : State} {m : MethodId} {args : Array Value} {below : List Frame} {meth : Method} {c : Code} {H : Heap} {locs : List Loc} {cells slots : Nat} {Q : State → Prop} {g : JFrame} (kk : H.size ≤ s.heap.size + cells → W p l e R s m args below meth c H locs cells slots Q g) : W p l e R s m args below meth c H locs cells slots Q g :=
  fun T hT X => kk (by rw [← hT]; exact X.same.2.2.1) T hT X
theorem W_call {p : Program} {l : Launch} {e : Env} {R : Room} {s : State} {m : MethodId} {args : Array Value} {below : List Frame} {meth : Method} {c : Code} {H : Heap} {locs : List Loc} {cells slots mc ms pc : Nat} {Q : State → Prop} {ls : Array Slot} {st0 rest : List Value} {Qa : State → Outcome → State → Prop} {free A : Nat → Prop}
    (hr : va_Run p l e R s m args below meth c H locs cells slots mc ms (F0 m pc ls st0) rest Qa free) (hl : ∀ q ∈ locs, A q.base) (hf : ∀ q, free q → A q)
    (kk : ∀ (v : Option Value) (st₀ t : State) (H1 : Heap) (locs1 : List Loc), st₀.heap = H → t.heap = H1 → s.vm.Alike t.vm → Qa st₀ (.returned v) t → (∀ q ∈ locs1, A q.base) → W p l e R s m args below meth c H1 locs1 (cells + mc) (slots + ms) Q (F0 m (pc + 3) ls (v.toList ++ rest))) : W p l e R s m args below meth c H locs cells slots Q (F0 m pc ls st0) := by
  intro T hT X
  obtain ⟨v, st₀, t, T', L, h0, X', hL, e1, e2, hq, st⟩ := hr T hT X
  obtain ⟨t2, a1, b1⟩ := kk v st₀ t T'.heap (locs ++ L) h0 e1.symm (by rw [← e2]; exact X'.warmed.alike) hq (fun q hq => by
    rcases List.mem_append.mp hq with h | h
    · exact hl q h
    · exact hf _ (hL q h)) T' rfl X'
  exact ⟨t2, st t2 a1, b1⟩
theorem V_get {a idx ci j : Nat} {ty : FieldType} {fin : Bool} {fs : List Value} {v : Value} (hd : Dc cc pc (.getfield idx) 3 nx) (hf : FL own idx ci j ty fin) (he : h a = some (.inr (ci, fs))) (hv : fs[j]? = some v)
    (kk : V G l own mn cc mL ret R E Qc sz k n nx L (v :: st) h) : V G l own mn cc mL ret R E Qc sz k n pc L (.ref a :: st) h := by
  obtain ⟨hd, rfl⟩ := hd
  obtain ⟨C0, T, tyf, N, ⟨hc, hin, -, -⟩, hj, -, -, hT, hk⟩ := hf
  intro p e s m args below meth c A H locs ls C hE hF hz hh hS hA hl
  have kk' := kk p e s m args below meth c A H locs ls C hE hF hz hh hS hA hl
  obtain ⟨ws, hr, hP, hD⟩ := hh
  obtain ⟨q0, hq0⟩ := (hr a _).mp he
  rcases hk with hk | ⟨host, hk⟩
  · exact va_get C.1 C.2.1 C.2.2.2.2.2.2.1 hin C.2.2.2.1 C.2.2.2.2.2.2.2.1 hP q0 hq0 hc j hj (C.2.2.2.2.2.2.1 _ hk) (fun x hx => by rw [hT] at hx; exact hx) hv hd kk'
  · exact va_getN C.1 C.2.1 C.2.2.2.2.2.2.1 hin C.2.2.2.1 C.2.2.2.2.2.2.2.1 hP q0 hq0 hc j hj (va_Nw.use rfl (hF.2.2.2 _ hk)) (fun x hx => by rw [hT] at hx; exact hx) hv hd kk'
theorem V_put {a idx ci j : Nat} {ty : FieldType} {fs fs' : List Value} {v : Value} (hd : Dc cc pc (.putfield idx) 3 nx) (hf : FL own idx ci j ty false) (he : h a = some (.inr (ci, fs))) (hn : narrow ty v = v) (hfit : fits ty v = true) (hj : j < fs.length) (hs : fs.set j v = fs')
    (kk : V G l own mn cc mL ret R E Qc sz k n nx L st (hset h a (.inr (ci, fs')))) : V G l own mn cc mL ret R E Qc sz k n pc L (v :: .ref a :: st) h := by
  obtain ⟨hd, rfl⟩ := hd
  subst hs
  obtain ⟨C0, T, tyf, N, ⟨hc, hin, hty, hnm⟩, hj2, ht, hfin, hT, hk⟩ := hf
  intro p e s m args below meth c A H locs ls C hE hF hz hh hS hA hl
  obtain ⟨ws, hr, hP, hD⟩ := hh
  obtain ⟨q0, hq0⟩ := (hr a _).mp he
  have fin : ∀ (H1 : Heap) (locs1 : List Loc), va_P G.1 vwCl (ws.set q0 (a, .inr (ci, fs.set j v))) H1 → va_D A (ws.set q0 (a, .inr (ci, fs.set j v))) → va_S A H H1 locs1 → W p l e R s m args below meth c H1 locs1 k n (Qc args s below A) (F0 m (pc + 3) ls st) := by
    intro H1 locs1 hP1 hD1 hS1
    refine W_sz (fun hle => ?_)
    have h1 := hS1.1
    exact kk p e s m args below meth c A H1 locs1 ls C hE hF ⟨hz.1, by omega⟩ ⟨_, hRel_set hr hD hq0, hP1, hD1⟩ (hS.tr hS1) hA hl
  rcases hk with hk | ⟨host, hk⟩
  · exact va_put C.1 C.2.1 C.2.2.2.2.2.2.1 hin tyf hty hnm C.2.2.2.1 C.2.2.2.2.2.2.2.1 hP hD hS.at q0 hq0 hc j hj2 (C.2.2.2.2.2.2.1 _ hk) (fun x hx => by rw [hT] at hx; exact hx) hfin (by rw [hty j hj2, ht]) hn hfit hj hd fin
  · exact va_putN C.1 C.2.1 C.2.2.2.2.2.2.1 hin tyf hty hnm C.2.2.2.1 C.2.2.2.2.2.2.2.1 hP hD hS.at q0 hq0 hc j hj2 (va_Nw.use rfl (hF.2.2.2 _ hk)) (fun x hx => by rw [hT] at hx; exact hx) hfin (by rw [hty j hj2, ht]) hn hfit hj hd fin
theorem V_putF {a idx ci j : Nat} {C0 : String} {T : u_T} {tyf : Nat → FieldType} {N : Nat} {fs fs' : List Value} {v : Value} (hd : Dc cc pc (.putfield idx) 3 nx) (hmn : mn = "<init>") (hCK : CK ci own T tyf N) (hj2 : j < N) (hfin : (T j).2.2.2 = true) (hT : (T j).1 = own) (hk : Cond.fieldLink own idx own (T j).2.1 (T j).2.2.1 ∈ lw_gtb) (he : h a = some (.inr (ci, fs))) (hn : narrow (tyf j) v = v) (hfit : fits (tyf j) v = true) (hj : j < fs.length) (hs : fs.set j v = fs')
    (kk : V G l own mn cc mL ret R E Qc sz k n nx L st (hset h a (.inr (ci, fs')))) : V G l own mn cc mL ret R E Qc sz k n pc L (v :: .ref a :: st) h := by
  obtain ⟨hd, rfl⟩ := hd
  subst hs
  obtain ⟨hc, hin, hty, hnm⟩ := hCK
  intro p e s m args below meth c A H locs ls C hE hF hz hh hS hA hl
  obtain ⟨ws, hr, hP, hD⟩ := hh
  obtain ⟨q0, hq0⟩ := (hr a _).mp he
  exact va_putF C.1 C.2.1 C.2.2.2.2.2.2.1 hin tyf hty hnm C.2.2.2.1 C.2.2.2.2.2.2.2.1 hP hD hS.at q0 hq0 hc j hj2 (C.2.2.2.2.2.2.1 _ hk) (fun x hx => by rw [hT] at hx; exact hx) hfin (C.2.2.2.2.2.2.2.2.trans hmn) hT (hty j hj2) hn hfit hj hd (fun H1 locs1 hP1 hD1 hS1 => W_sz (fun hle => by
    have h1 := hS1.1
    exact kk p e s m args below meth c A H1 locs1 ls C hE hF ⟨hz.1, by omega⟩ ⟨_, hRel_set hr hD hq0, hP1, hD1⟩ (hS.tr hS1) hA hl))
theorem V_alen {a : Nat} {cA : ClassId} {x : vp_A} {v : Int32} (hd : Dc cc pc .arraylength 1 nx) (he : h a = some (.inl (cA, x))) (ht : ∃ (t0 : Nat) (ty : FieldType), (gtys G)[t0]? = some (cA, ty)) (hv : Int32.ofNat x.1 = v)
    (kk : V G l own mn cc mL ret R E Qc sz k n nx L (.int v :: st) h) : V G l own mn cc mL ret R E Qc sz k n pc L (.ref a :: st) h := by
  obtain ⟨hd, rfl⟩ := hd
  obtain ⟨t0, ty, ht⟩ := ht
  intro p e s m args below meth c A H locs ls C hE hF hz hh hS hA hl
  have kk' := kk p e s m args below meth c A H locs ls C hE hF hz hh hS hA hl
  obtain ⟨ws, hr, hP, hD⟩ := hh
  obtain ⟨q0, hq0⟩ := (hr a _).mp he
  exact va_alen C.1 C.2.1 C.2.2.2.2.2.2.2.1 hP q0 t0 hq0 ht hv hd kk'
theorem V_aleni {a N : Nat} {f : Nat → Int32} {v : Int32} (hd : Dc cc pc .arraylength 1 nx) (he : h a = some (iA G N f)) (hv : Int32.ofNat N = v)
    (kk : V G l own mn cc mL ret R E Qc sz k n nx L (.int v :: st) h) : V G l own mn cc mL ret R E Qc sz k n pc L (.ref a :: st) h := V_alen hd he ⟨0, .int, rfl⟩ hv kk
theorem V_alenc {a N : Nat} {f : Nat → Int32} {v : Int32} (hd : Dc cc pc .arraylength 1 nx) (he : h a = some (chA G N f)) (hv : Int32.ofNat N = v)
    (kk : V G l own mn cc mL ret R E Qc sz k n nx L (.int v :: st) h) : V G l own mn cc mL ret R E Qc sz k n pc L (.ref a :: st) h := V_alen hd he ⟨1, .char, rfl⟩ hv kk
theorem V_alens {a N : Nat} {f : Nat → Option Nat} {v : Int32} (hd : Dc cc pc .arraylength 1 nx) (he : h a = some (sA G N f)) (hv : Int32.ofNat N = v)
    (kk : V G l own mn cc mL ret R E Qc sz k n nx L (.int v :: st) h) : V G l own mn cc mL ret R E Qc sz k n pc L (.ref a :: st) h := V_alen hd he ⟨2, _, rfl⟩ hv kk
theorem V_iald {a N : Nat} {f : Nat → Int32} {i v : Int32} (hd : Dc cc pc .iaload 1 nx) (he : h a = some (iA G N f)) (hi : vp_in i N) (hv : f i.toNatClampNeg = v)
    (kk : V G l own mn cc mL ret R E Qc sz k n nx L (.int v :: st) h) : V G l own mn cc mL ret R E Qc sz k n pc L (.int i :: .ref a :: st) h := by
  obtain ⟨hd, rfl⟩ := hd
  subst hv
  intro p e s m args below meth c A H locs ls C hE hF hz hh hS hA hl
  have kk' := kk p e s m args below meth c A H locs ls C hE hF hz hh hS hA hl
  obtain ⟨ws, hr, hP, hD⟩ := hh
  obtain ⟨q0, hq0⟩ := (hr a _).mp he
  exact va_iald C.1 C.2.1 C.2.2.2.2.2.2.2.1 hP q0 0 hq0 rfl hi hd kk'
theorem V_cald {a N : Nat} {f : Nat → Int32} {i v : Int32} (hd : Dc cc pc .caload 1 nx) (he : h a = some (chA G N f)) (hi : vp_in i N) (hv : f i.toNatClampNeg = v)
    (kk : V G l own mn cc mL ret R E Qc sz k n nx L (.int v :: st) h) : V G l own mn cc mL ret R E Qc sz k n pc L (.int i :: .ref a :: st) h := by
  obtain ⟨hd, rfl⟩ := hd
  subst hv
  intro p e s m args below meth c A H locs ls C hE hF hz hh hS hA hl
  have kk' := kk p e s m args below meth c A H locs ls C hE hF hz hh hS hA hl
  obtain ⟨ws, hr, hP, hD⟩ := hh
  obtain ⟨q0, hq0⟩ := (hr a _).mp he
  exact va_cald C.1 C.2.1 C.2.2.2.2.2.2.2.1 hP q0 1 hq0 rfl hi hd kk'
theorem V_aald {a N : Nat} {f : Nat → Option Nat} {i : Int32} {v : Value} (hd : Dc cc pc .aaload 1 nx) (he : h a = some (sA G N f)) (hi : vp_in i N) (hv : va_rf (f i.toNatClampNeg) = v)
    (kk : V G l own mn cc mL ret R E Qc sz k n nx L (v :: st) h) : V G l own mn cc mL ret R E Qc sz k n pc L (.int i :: .ref a :: st) h := by
  obtain ⟨hd, rfl⟩ := hd
  subst hv
  intro p e s m args below meth c A H locs ls C hE hF hz hh hS hA hl
  have kk' := kk p e s m args below meth c A H locs ls C hE hF hz hh hS hA hl
  obtain ⟨ws, hr, hP, hD⟩ := hh
  obtain ⟨q0, hq0⟩ := (hr a _).mp he
  exact va_aldq C.1 C.2.1 C.2.2.2.2.2.2.2.1 hP q0 2 hq0 rfl hi hd kk'
theorem V_iast {a N : Nat} {f : Nat → Int32} {i x : Int32} (hd : Dc cc pc .iastore 1 nx) (he : h a = some (iA G N f)) (hi : vp_in i N)
    (kk : V G l own mn cc mL ret R E Qc sz k n nx L st (hset h a (iA G N (upd f i.toNatClampNeg x)))) : V G l own mn cc mL ret R E Qc sz k n pc L (.int x :: .int i :: .ref a :: st) h := by
  obtain ⟨hd, rfl⟩ := hd
  intro p e s m args below meth c A H locs ls C hE hF hz hh hS hA hl
  obtain ⟨ws, hr, hP, hD⟩ := hh
  obtain ⟨q0, hq0⟩ := (hr a _).mp he
  exact va_iast C.1 C.2.1 C.2.2.2.2.2.2.2.1 hP hD hS.at q0 0 hq0 rfl hi hd (fun H1 locs1 hP1 hD1 hS1 => W_sz (fun hle => by
    have h1 := hS1.1
    exact kk p e s m args below meth c A H1 locs1 ls C hE hF ⟨hz.1, by omega⟩ ⟨_, hRel_set hr hD hq0, hP1, hD1⟩ (hS.tr hS1) hA hl))
theorem V_cast {a N : Nat} {f : Nat → Int32} {i x : Int32} (hd : Dc cc pc .castore 1 nx) (he : h a = some (chA G N f)) (hi : vp_in i N)
    (kk : V G l own mn cc mL ret R E Qc sz k n nx L st (hset h a (chA G N (upd f i.toNatClampNeg (vp_nar .char x))))) : V G l own mn cc mL ret R E Qc sz k n pc L (.int x :: .int i :: .ref a :: st) h := by
  obtain ⟨hd, rfl⟩ := hd
  intro p e s m args below meth c A H locs ls C hE hF hz hh hS hA hl
  obtain ⟨ws, hr, hP, hD⟩ := hh
  obtain ⟨q0, hq0⟩ := (hr a _).mp he
  exact va_cast C.1 C.2.1 C.2.2.2.2.2.2.2.1 hP hD hS.at q0 1 hq0 rfl hi hd (fun H1 locs1 hP1 hD1 hS1 => W_sz (fun hle => by
    have h1 := hS1.1
    exact kk p e s m args below meth c A H1 locs1 ls C hE hF ⟨hz.1, by omega⟩ ⟨_, hRel_set hr hD hq0, hP1, hD1⟩ (hS.tr hS1) hA hl))
theorem V_aast {a N v : Nat} {f : Nat → Option Nat} {i : Int32} {vs : List Value} (hd : Dc cc pc .aastore 1 nx) (he : h a = some (sA G N f)) (hi : vp_in i N) (hv : h v = some (.inr (4, vs)))
    (kk : V G l own mn cc mL ret R E Qc sz k n nx L st (hset h a (sA G N (va_up f i.toNatClampNeg (some v))))) : V G l own mn cc mL ret R E Qc sz k n pc L (.ref v :: .int i :: .ref a :: st) h := by
  obtain ⟨hd, rfl⟩ := hd
  intro p e s m args below meth c A H locs ls C hE hF hz hh hS hA hl
  obtain ⟨ws, hr, hP, hD⟩ := hh
  obtain ⟨q0, hq0⟩ := (hr a _).mp he
  obtain ⟨qk, hqk⟩ := (hr v _).mp hv
  exact va_astq C.1 C.2.1 C.2.2.2.2.2.2.2.1 hP hD hS.at q0 2 qk 4 hq0 (r := (RX4, TX4, 8)) rfl hqk rfl hi hd (fun H1 locs1 hP1 hD1 hS1 => W_sz (fun hle => by
    have h1 := hS1.1
    exact kk p e s m args below meth c A H1 locs1 ls C hE hF ⟨hz.1, by omega⟩ ⟨_, hRel_set hr hD hq0, hP1, hD1⟩ (hS.tr hS1) hA hl))

theorem V_iret {Qf : Option Value → Hp → Prop} {v : Int32} {mc ms : Nat} (hd : Dc cc pc .ireturn 1 nx) (hr : ret = some .int) (hk : k = mc) (hn : n = ms) (hq : Qf (some (.int v)) h) : V G l own mn cc mL ret R E (Qm G Qf sz mc ms) sz k n pc L [.int v] h := by
  obtain ⟨hd, -⟩ := hd
  subst hk; subst hn
  intro p e s m args below meth c A H locs ls C hE hF hz hh hS hA hl
  exact W.iret C.1 C.2.1 (C.2.2.2.2.1.trans hr) (fun t ht hW => ⟨_, h, rfl, hq, by rw [ht]; exact hz.2, by rw [ht]; exact hh, va_K.moved hW.alike C.2.2.2.2.2.2.2.1, hS.F ht⟩) hS.2.2 hd C.2.2.2.2.2.1
theorem V_zret {Qf : Option Value → Hp → Prop} {v : Int32} {mc ms : Nat} {ty : FieldType} (hd : Dc cc pc .ireturn 1 nx) (hr : ret = some ty) (hnw : narrow ty (.int v) = .int v) (hk : k = mc) (hn : n = ms) (hq : Qf (some (.int v)) h) : V G l own mn cc mL ret R E (Qm G Qf sz mc ms) sz k n pc L [.int v] h := by
  obtain ⟨hd, -⟩ := hd
  subst hk; subst hn
  intro p e s m args below meth c A H locs ls C hE hF hz hh hS hA hl
  exact W.zret C.1 C.2.1 (C.2.2.2.2.1.trans hr) hnw (fun t ht hW => ⟨_, h, rfl, hq, by rw [ht]; exact hz.2, by rw [ht]; exact hh, va_K.moved hW.alike C.2.2.2.2.2.2.2.1, hS.F ht⟩) hS.2.2 hd C.2.2.2.2.2.1
theorem V_vret {Qf : Option Value → Hp → Prop} {mc ms : Nat} (hd : Dc cc pc .return_ 1 nx) (hr : ret = none) (hk : k = mc) (hn : n = ms) (hq : Qf none h) : V G l own mn cc mL ret R E (Qm G Qf sz mc ms) sz k n pc L [] h := by
  obtain ⟨hd, -⟩ := hd
  subst hk; subst hn
  intro p e s m args below meth c A H locs ls C hE hF hz hh hS hA hl
  exact W.vret C.1 C.2.1 (C.2.2.2.2.1.trans hr) (fun t ht hW => ⟨_, h, rfl, hq, by rw [ht]; exact hz.2, by rw [ht]; exact hh, va_K.moved hW.alike C.2.2.2.2.2.2.2.1, hS.F ht⟩) hS.2.2 hd C.2.2.2.2.2.1

theorem va_recvH {D : va_G} {A : Nat → Prop} {tys : List (ClassId × FieldType)} {s : State} {H : Heap} {b ci : Nat} {fs : List Value} {C : String} (hK : va_K D vwCl tys s) (hh : HH D A h H) (he : h b = some (.inr (ci, fs))) (hc : (vwCl[ci]?).map (fun q => q.1) = some C) : ∃ cellB : Cell, H[b]? = some cellB ∧ cellB.vm.isStatics = false ∧ s.vm.findClass C = some cellB.cls := by
  obtain ⟨ws, hr, hP, hD⟩ := hh
  obtain ⟨q0, hq0⟩ := (hr b _).mp he
  cases hx : vwCl[ci]? with
  | none => rw [hx] at hc; simp at hc
  | some r =>
    rw [hx] at hc
    simp at hc
    subst hc
    exact va_recv (q0 := q0) hK hP hx hq0
theorem Ax_in {A : Nat → Prop} {H : Heap} {D : va_G} {s : State} {sz : Nat} (hh : HH D A h H) (hA : ∀ q, s.heap.size ≤ q → A q) (hz : s.heap.size ≤ sz) : ∀ q, Ax h sz q → A q := by
  intro q hq
  rcases hq with ⟨e, he⟩ | hq
  · exact hh.in he
  · exact hA q (by omega)
/-- the end of a call: the world behind it -/
theorem V_end {p : Program} {e : Env} {s : State} {m : MethodId} {args : Array Value} {below : List Frame} {meth : Method} {c : Code} {A : Nat → Prop} {H : Heap} {ls : Array Slot} {rest st0 : List Value} {mc' ms' : Nat} {Qf : Option Value → Hp → Prop} {locs : List Loc}
    (C : Cx G own mn cc mL ret p s m args meth c) (hE : E s A args) (hF : SF G A s s.heap) (hz : s.heap.size = sz ∧ H.size = sz + k) (hh : HH G.1 A h H) (hS : va_S A s.heap H locs) (hA : ∀ q, s.heap.size ≤ q → A q) (hl : hasL ls mL L)
    (hr : va_Run p l e R s m args below meth c H locs k n mc' ms' (F0 m pc ls st0) rest (Qpost G Qf (sz + k) mc' (Ax h (sz + k)) args) (Ax h (sz + k))) (hn : pc + 3 = nx)
    (kk : ∀ (r : Option Value) (h' : Hp), Qf r h' → V G l own mn cc mL ret R E Qc sz (k + mc') (n + ms') nx L (r.toList ++ rest) h') : W p l e R s m args below meth c H locs k n (Qc args s below A) (F0 m pc ls st0) := by
  subst hn
  have hAx : ∀ q, Ax h (sz + k) q → A q := Ax_in hh hA (by omega)
  refine W_call hr hS.2.2 hAx (fun v st₀ t H1 locs1 h0 ht hvm hq hl1 => ?_)
  obtain ⟨r, h', e1, e2, e3, e4, e5, e6⟩ := hq
  cases e1
  rw [ht] at e3 e4
  have e6a := e6.1
  have e6b := e6.2
  rw [h0, ht] at e6a
  rw [h0, ht] at e6b
  have hS1 : va_S A H H1 locs1 := ⟨e6a, fun q a b => e6b q a (fun z => b (hAx q z)), hl1⟩
  exact kk _ h' e2 p e s m args below meth c A H1 locs1 ls C hE hF ⟨hz.1, by omega⟩ (e4.weaken hAx) (hS.tr hS1) hA hl
theorem pre_ok {p : Program} {s : State} {m : MethodId} {args : Array Value} {meth : Method} {c : Code} {A : Nat → Prop} {H : Heap} {locs : List Loc}
    (C : Cx G own mn cc mL ret p s m args meth c) (hF : SF G A s s.heap) (hz : s.heap.size = sz ∧ H.size = sz + k) (hh : HH G.1 A h H) (hS : va_S A s.heap H locs) (hA : ∀ q, s.heap.size ≤ q → A q) : ∀ U : State, U.heap = H → s.WarmedH U.vm → hPre G (sz + k) h U := by
  intro U hU hW
  refine ⟨by rw [hU]; exact hz.2, by rw [hU]; exact hh.weaken (fun _ _ => trivial), va_K.moved hW.alike C.2.2.2.2.2.2.2.1, ?_⟩
  have h1 : SF G A s H := hF.kept (fun q a b => hS.2.1 q a b)
  rw [hU]
  exact (h1.narrow (Ax_in hh hA (by omega))).warm hW
theorem V_callV {y : MethodName} {yc : ByteArray} {ymL d' mc' ms' idx b ci : Nat} {yret : Option FieldType} {As rest stk fs : List Value} {Qf : Option Value → Hp → Prop} (hd : Dc cc pc (.invokevirtual idx) 3 nx) (hk : LkV own idx y) (hy : Yk y yc ymL yret As.length) (he : h b = some (.inr (ci, fs))) (hci : (vwCl[ci]?).map (fun q => q.1) = some y.cls)
    (hm : Ct G l y yc ymL yret d' mc' ms' (sz + k) (.ref b :: As) h Qf) (hst : stk = As.reverse ++ .ref b :: rest) (h8 : (rest.map fun v => v.category).sum ≤ 8) (hR : d' + 1 ≤ R.frames ∧ 8 + (ymL + 11) + 31 * d' ≤ R.locals ∧ k + mc' ≤ R.cells ∧ n + ms' ≤ R.slots)
    (kk : ∀ (r : Option Value) (h' : Hp), Qf r h' → V G l own mn cc mL ret R E Qc sz (k + mc') (n + ms') nx L (r.toList ++ rest) h') : V G l own mn cc mL ret R E Qc sz k n pc L stk h := by
  obtain ⟨hd, hn⟩ := hd
  obtain ⟨hk0, hk1, hk2⟩ := hk
  intro p e s m args below meth c A H locs ls C hE hF hz hh hS hA hl
  have tb := C.2.2.2.2.2.2.1
  have hp : PreV s H y.cls b (va_Pc (.ref b :: As) (hPre G (sz + k) h)) As := ⟨hPre.blind, va_recvH C.2.2.2.2.2.2.2.1 hh he hci, fun U hU hW => ⟨rfl, pre_ok C hF hz hh hS hA U hU hW⟩⟩
  refine V_end C hE hF hz hh hS hA hl ?_ hn kk
  rcases hk0 with hk0 | ⟨host, hk0⟩
  · exact va_runV (As := As) (rest := rest) ⟨C.1, C.2.1, C.2.2.1, C.2.2.2.1, tb⟩ hm ⟨callB_of As.length tb (good_wsY hy.1) rfl rfl rfl (tb _ hy.2.1) (tb _ hk0) hy.2.2 ⟨hR.1, hR.2.1⟩, tb _ hk1, tb _ hk2⟩ hp rfl rfl hl.1 hst (lv_room h8) hd hR.2.2
  · exact va_runVN (As := As) (rest := rest) ⟨C.1, C.2.1, C.2.2.1, C.2.2.2.1, tb⟩ hm ⟨va_cnB As.length tb (good_wsY hy.1) rfl rfl rfl (hF.2.2.2 _ hk0) (tb _ hy.2.1) hy.2.2 ⟨hR.1, hR.2.1⟩, tb _ hk1, tb _ hk2⟩ hp rfl rfl hl.1 hst (lv_room h8) hd hR.2.2
theorem V_callS {y : MethodName} {yc : ByteArray} {ymL d' mc' ms' idx : Nat} {yret : Option FieldType} {As rest stk : List Value} {Qf : Option Value → Hp → Prop} (hd : Dc cc pc (.invokestatic idx) 3 nx) (hk : LkS own idx y) (hy : Yk y yc ymL yret As.length)
    (hm : Ct G l y yc ymL yret d' mc' ms' (sz + k) As h Qf) (hst : stk = As.reverse ++ rest) (h8 : (rest.map fun v => v.category).sum ≤ 8) (hR : d' + 1 ≤ R.frames ∧ 8 + (ymL + 11) + 31 * d' ≤ R.locals ∧ k + mc' ≤ R.cells ∧ n + ms' ≤ R.slots)
    (kk : ∀ (r : Option Value) (h' : Hp), Qf r h' → V G l own mn cc mL ret R E Qc sz (k + mc') (n + ms') nx L (r.toList ++ rest) h') : V G l own mn cc mL ret R E Qc sz k n pc L stk h := by
  obtain ⟨hd, hn⟩ := hd
  obtain ⟨hk0, hk1⟩ := hk
  intro p e s m args below meth c A H locs ls C hE hF hz hh hS hA hl
  have tb := C.2.2.2.2.2.2.1
  have hp : PreS s H (va_Pc As (hPre G (sz + k) h)) As := ⟨hPre.blind, fun U hU hW => ⟨rfl, pre_ok C hF hz hh hS hA U hU hW⟩⟩
  refine V_end C hE hF hz hh hS hA hl ?_ hn kk
  rcases hk0 with hk0 | ⟨host, hk0⟩
  · exact va_runS (As := As) (rest := rest) ⟨C.1, C.2.1, C.2.2.1, C.2.2.2.1, tb⟩ hm ⟨callB_of As.length tb (good_wsY hy.1) rfl rfl rfl (tb _ hy.2.1) (tb _ hk0) hy.2.2 ⟨hR.1, hR.2.1⟩, tb _ hk1⟩ hp rfl rfl hl.1 hst (lv_room h8) hd hR.2.2
  · exact va_runSN (As := As) (rest := rest) ⟨C.1, C.2.1, C.2.2.1, C.2.2.2.1, tb⟩ hm ⟨va_cnB As.length tb (good_wsY hy.1) rfl rfl rfl (hF.2.2.2 _ hk0) (tb _ hy.2.1) hy.2.2 ⟨hR.1, hR.2.1⟩, tb _ hk1, trivial⟩ hp rfl rfl hl.1 hst (lv_room h8) hd hR.2.2
theorem V_callI {y : MethodName} {yc : ByteArray} {ymL d' mc' ms' idx b : Nat} {As rest stk : List Value} {Qf : Option Value → Hp → Prop} (hd : Dc cc pc (.invokespecial idx) 3 nx) (hk : LkI own idx y) (hy : Yk y yc ymL none As.length)
    (hm : Ct G l y yc ymL none d' mc' ms' (sz + k) (.ref b :: As) h Qf) (hst : stk = As.reverse ++ .ref b :: rest) (h8 : (rest.map fun v => v.category).sum ≤ 8) (hR : d' + 1 ≤ R.frames ∧ 8 + (ymL + 11) + 31 * d' ≤ R.locals ∧ k + mc' ≤ R.cells ∧ n + ms' ≤ R.slots)
    (kk : ∀ (r : Option Value) (h' : Hp), Qf r h' → V G l own mn cc mL ret R E Qc sz (k + mc') (n + ms') nx L (r.toList ++ rest) h') : V G l own mn cc mL ret R E Qc sz k n pc L stk h := by
  obtain ⟨hd, hn⟩ := hd
  obtain ⟨hk0, hk1, hk2⟩ := hk
  intro p e s m args below meth c A H locs ls C hE hF hz hh hS hA hl
  have tb := C.2.2.2.2.2.2.1
  have hp : PreS s H (va_Pc (.ref b :: As) (hPre G (sz + k) h)) (.ref b :: As) := ⟨hPre.blind, fun U hU hW => ⟨rfl, pre_ok C hF hz hh hS hA U hU hW⟩⟩
  refine V_end C hE hF hz hh hS hA hl ?_ hn kk
  rcases hk0 with hk0 | ⟨host, hk0⟩
  · exact va_runI (As := As) (rest := rest) ⟨C.1, C.2.1, C.2.2.1, C.2.2.2.1, tb⟩ hm ⟨callB_of As.length tb (good_wsY hy.1) rfl rfl rfl (tb _ hy.2.1) (tb _ hk0) hy.2.2 ⟨hR.1, hR.2.1⟩, hk2, tb _ hk1⟩ hp rfl rfl hl.1 hst (lv_room h8) hd hR.2.2
  · exact va_runIN (As := As) (rest := rest) ⟨C.1, C.2.1, C.2.2.1, C.2.2.2.1, tb⟩ hm ⟨va_cnB As.length tb (good_wsY hy.1) rfl rfl rfl (hF.2.2.2 _ hk0) (tb _ hy.2.1) hy.2.2 ⟨hR.1, hR.2.1⟩, hk2, tb _ hk1⟩ hp rfl rfl hl.1 hst (lv_room h8) hd hR.2.2

theorem HH.push {D : va_G} {A : Nat → Prop} {h : Hp} {H H1 : Heap} {a : Nat} {e1 : va_E} (hh : HH D A h H) (ha : H.size = a) (hA : A a) (hq : ∀ q, q < a → H1[q]? = H[q]?) (he : va_at D vwCl (a, e1) H1) : HH D A (hset h a e1) H1 := by
  obtain ⟨ws, hr, hP, hD⟩ := hh
  have hk : ∀ (k : Nat) (x : Nat × va_E), ws[k]? = some x → H1[x.1]? = H[x.1]? := fun k x hx => hq x.1 (by rw [← ha]; exact (hP k x hx).lt)
  refine ⟨ws ++ [(a, e1)], hRel_push hr hP (by omega), (hP.kept hk).app (fun k x hx => ?_), hD.push hP ha.symm hA⟩
  have hz : k < 1 := (List.getElem?_eq_some_iff.mp hx).1
  rw [show k = 0 by omega] at hx
  cases hx
  exact he
theorem V_newi {i : Int32} {N : Nat} (hd : Dc cc pc (.newarray .int) 2 nx) (hN : i.toNatClampNeg = N) (hi : ¬ i < 0) (hb : N * 4 ≤ 536870912) (hc : k + 1 ≤ R.cells) (hs : n + N ≤ R.slots) (hw : Cond.arrayClass .int ∈ lw_gtb)
    (kk : V G l own mn cc mL ret R E Qc sz (k + 1) (n + N) nx L (.ref (sz + k) :: st) (hset h (sz + k) (iA G N (fun _ => 0)))) : V G l own mn cc mL ret R E Qc sz k n pc L (.int i :: st) h := by
  obtain ⟨hd, rfl⟩ := hd
  intro p e s m args below meth c A H locs ls C hE hF hz hh hS hA hl
  refine va_newaK (atype := .int) C.1 C.2.1 (C.2.2.2.2.2.2.1 _ hw) rfl hd rfl hi hN hb hc hs hz.2 (fun H1 cA e1 z1 o1 hAr hNm => ?_)
  have hcA : cA = G.2.1 := by
    have h1 := (C.2.2.2.2.2.2.2.1.2 0 (G.2.1, .int) rfl).2
    exact Option.some.inj (hNm.symm.trans h1)
  subst hcA
  exact kk p e s m args below meth c A H1 locs ls C hE hF ⟨hz.1, by omega⟩ (hh.push hz.2 (hA _ (by omega)) o1 (by
    show H1[sz + k]? = some (vp_cell _ _)
    rw [e1, vp_cell_i]
    rfl)) ⟨by have := hS.1; omega, fun q a b => (o1 q (by omega)).trans (hS.2.1 q a b), hS.2.2⟩ hA hl
theorem V_newc {i : Int32} {N : Nat} (hd : Dc cc pc (.newarray .char) 2 nx) (hN : i.toNatClampNeg = N) (hi : ¬ i < 0) (hb : N * 2 ≤ 536870912) (hc : k + 1 ≤ R.cells) (hs : n + N ≤ R.slots) (hw : Cond.arrayClass .char ∈ lw_gtb)
    (kk : V G l own mn cc mL ret R E Qc sz (k + 1) (n + N) nx L (.ref (sz + k) :: st) (hset h (sz + k) (chA G N (fun _ => 0)))) : V G l own mn cc mL ret R E Qc sz k n pc L (.int i :: st) h := by
  obtain ⟨hd, rfl⟩ := hd
  intro p e s m args below meth c A H locs ls C hE hF hz hh hS hA hl
  refine va_newaK (atype := .char) C.1 C.2.1 (C.2.2.2.2.2.2.1 _ hw) rfl hd rfl hi hN hb hc hs hz.2 (fun H1 cA e1 z1 o1 hAr hNm => ?_)
  have hcA : cA = G.2.2.1 := by
    have h1 := (C.2.2.2.2.2.2.2.1.2 1 (G.2.2.1, .char) rfl).2
    exact Option.some.inj (hNm.symm.trans h1)
  subst hcA
  exact kk p e s m args below meth c A H1 locs ls C hE hF ⟨hz.1, by omega⟩ (hh.push hz.2 (hA _ (by omega)) o1 (by
    show H1[sz + k]? = some (vp_cell _ _)
    rw [e1, vp_cell_i]
    rfl)) ⟨by have := hS.1; omega, fun q a b => (o1 q (by omega)).trans (hS.2.1 q a b), hS.2.2⟩ hA hl
theorem V_new {idx ci N : Nat} {C0 : String} {T : u_T} {tyf : Nat → FieldType} {fs : List Value} (hd : Dc cc pc (.new idx) 3 nx) (hCK : CK ci C0 T tyf N) (h1 : Cond.classLink own idx C0 ∈ lw_gtb) (h2 : Cond.instantiable C0 N ∈ lw_gtb) (h3 : Cond.initialized C0 ∈ lw_gtb) (hfs : ∀ j, j < N → defaultValue (tyf j) = vp_V fs j) (hc : k + 1 ≤ R.cells) (hs : n + N ≤ R.slots)
    (kk : V G l own mn cc mL ret R E Qc sz (k + 1) (n + N) nx L (.ref (sz + k) :: st) (hset h (sz + k) (.inr (ci, fs)))) : V G l own mn cc mL ret R E Qc sz k n pc L st h := by
  obtain ⟨hd, rfl⟩ := hd
  obtain ⟨hc0, hin, hty, hnm⟩ := hCK
  intro p e s m args below meth c A H locs ls C hE hF hz hh hS hA hl
  have tb := C.2.2.2.2.2.2.1
  have hKn := C.2.2.2.2.2.2.2.1.1 ci _ hc0
  refine W.newcK C.1 C.2.1 C.2.2.2.1 (tb _ h1) (tb _ h2) (tb _ h3) rfl hd hc hs hKn.2.1 hz.2 (fun H1 kC hkC e1 z1 o1 => ?_)
  exact kk p e s m args below meth c A H1 locs ls C hE hF ⟨hz.1, by omega⟩ (hh.push hz.2 (hA _ (by omega)) o1 ⟨_, hc0, (u_born tyf tb hin hKn hkC e1 hty).to hfs⟩) ⟨by have := hS.1; omega, fun q a b => (o1 q (by omega)).trans (hS.2.1 q a b), hS.2.2⟩ hA hl
theorem V_anew {idx : Nat} {i : Int32} {N : Nat} (hd : Dc cc pc (.anewarray idx) 3 nx) (h1 : Cond.classLink own idx "TryLoops$State" ∈ lw_gtb) (h2 : Cond.arrayOver (.object "TryLoops$State") ∈ lw_gtb) (hN : i.toNatClampNeg = N) (hi : ¬ i < 0) (hb : N * 4 ≤ 536870912) (hc : k + 1 ≤ R.cells) (hs : n + N ≤ R.slots)
    (kk : V G l own mn cc mL ret R E Qc sz (k + 1) (n + N) nx L (.ref (sz + k) :: st) (hset h (sz + k) (sA G N (fun _ => none)))) : V G l own mn cc mL ret R E Qc sz k n pc L (.int i :: st) h := by
  obtain ⟨hd, rfl⟩ := hd
  intro p e s m args below meth c A H locs ls C hE hF hz hh hS hA hl
  have tb := C.2.2.2.2.2.2.1
  have hz2 := hz.2
  subst hN
  refine W.anew C.1 C.2.1 C.2.2.2.1 (tb _ h1) (tb _ h2) rfl hd rfl hi hb hc hs (fun cA kA comp f1 f2 f3 f4 => ?_)
  generalize hH1 : H.push ({ cls := cA, slots := Array.replicate i.toNatClampNeg .null, vm := .none } : Cell) = H1
  have z1 : H1.size = H.size + 1 := by rw [← hH1, Array.size_push]
  have e1 : H1[H.size]? = some (arrV cA i.toNatClampNeg (fun _ => .null)) := by rw [← hH1, Array.getElem?_push_size, ← arrV_new]
  have o1 : ∀ q : Nat, q < H.size → H1[q]? = H[q]? := fun q hq => by rw [← hH1, Array.getElem?_push, if_neg (Nat.ne_of_lt hq)]
  have hcA : cA = G.2.2.2.1 := by
    obtain ⟨kA2, comp2, g1, g2, g3, g4⟩ := (C.2.2.2.2.2.2.2.1.2 2 (G.2.2.2.1, .object "TryLoops$State") rfl).2
    exact Option.some.inj (f1.symm.trans g4)
  subst hcA
  rw [← hz2] at kk
  exact kk p e s m args below meth c A H1 locs ls C hE hF ⟨hz.1, by omega⟩ (hh.push rfl (hA _ (by omega)) o1 (by
    show H1[H.size]? = some (vp_cell _ _)
    rw [e1, vp_cell_q]
    rfl)) ⟨by have := hS.1; omega, fun q a b => (o1 q (by omega)).trans (hS.2.1 q a b), hS.2.2⟩ hA hl
theorem V_oinit {idx a : Nat} (hd : Dc cc pc (.invokespecial idx) 3 nx) (h1 : Cond.methodLink own idx objectInit ∈ lw_gtb) (h2 : Cond.instanceMethod objectInit ∈ lw_gtb) (h3 : Cond.code objectInit ⟨#[0xb1]⟩ 1 none ∈ lw_gtb) (hf : 1 ≤ R.frames) (hl8 : (st.map fun v => v.category).sum + 12 ≤ R.locals)
    (kk : V G l own mn cc mL ret R E Qc sz k n nx L st h) : V G l own mn cc mL ret R E Qc sz k n pc L (.ref a :: st) h := by
  obtain ⟨hd, rfl⟩ := hd
  intro p e s m args below meth c A H locs ls C hE hF hz hh hS hA hl
  have tb := C.2.2.2.2.2.2.1
  refine W.objInit C.1 C.2.1 C.2.2.2.1 (tb _ h1) (tb _ h2) (tb _ h3) rfl (by rw [C.2.2.1]; exact hl.1) rfl hd hf (by show 2 * 0 + _ + 12 ≤ _; omega) ?_
  exact kk p e s m args below meth c A H locs ls C hE hF hz hh hS hA hl
theorem V_max {idx : Nat} {x y : Int32} (hd : Dc cc pc (.invokestatic idx) 3 nx) (h1 : Cond.methodLink own idx Lib.Math.max.name ∈ lw_gtb) (h2 : Cond.static Lib.Math.max.name ∈ lw_gtb) (h3 : Cond.initialized "java/lang/Math" ∈ lw_gtb) (h4 : Cond.code Lib.Math.max.name Lib.Math.max.code 2 (some .int) ∈ lw_gtb) (hf : 1 ≤ R.frames) (hl8 : (st.map fun v => v.category).sum + 13 ≤ R.locals) (hc : k ≤ R.cells) (hs : n ≤ R.slots)
    (kk : V G l own mn cc mL ret R E Qc sz k n nx L (.int (if x < y then y else x) :: st) h) : V G l own mn cc mL ret R E Qc sz k n pc L (.int y :: .int x :: st) h := by
  obtain ⟨hd, rfl⟩ := hd
  intro p e s m args below meth c A H locs ls C hE hF hz hh hS hA hl
  have tb := C.2.2.2.2.2.2.1
  exact va_mmax C.1 C.2.1 (by rw [C.2.2.1]; exact hl.1.symm) C.2.2.2.1 (tb _ h1) (tb _ h2) (tb _ h3) (tb _ h4) hf hl8 hc hs hd (kk p e s m args below meth c A H locs ls C hE hF hz hh hS hA hl)
theorem V_min {idx : Nat} {x y : Int32} (hd : Dc cc pc (.invokestatic idx) 3 nx) (h1 : Cond.methodLink own idx Lib.Math.min.name ∈ lw_gtb) (h2 : Cond.static Lib.Math.min.name ∈ lw_gtb) (h3 : Cond.initialized "java/lang/Math" ∈ lw_gtb) (h4 : Cond.code Lib.Math.min.name Lib.Math.min.code 2 (some .int) ∈ lw_gtb) (hf : 1 ≤ R.frames) (hl8 : (st.map fun v => v.category).sum + 13 ≤ R.locals) (hc : k ≤ R.cells) (hs : n ≤ R.slots)
    (kk : V G l own mn cc mL ret R E Qc sz k n nx L (.int (if y < x then y else x) :: st) h) : V G l own mn cc mL ret R E Qc sz k n pc L (.int y :: .int x :: st) h := by
  obtain ⟨hd, rfl⟩ := hd
  intro p e s m args below meth c A H locs ls C hE hF hz hh hS hA hl
  have tb := C.2.2.2.2.2.2.1
  exact va_mmin C.1 C.2.1 (by rw [C.2.2.1]; exact hl.1.symm) C.2.2.2.1 (tb _ h1) (tb _ h2) (tb _ h3) (tb _ h4) hf hl8 hc hs hd (kk p e s m args below meth c A H locs ls C hE hF hz hh hS hA hl)
theorem V_acopy {idx a0 a n0 n1 : Nat} {f g : Nat → Int32} {sp dp i : Int32} (hd : Dc cc pc (.invokestatic idx) 3 nx) (hk1 : Cond.methodLink own idx arraycopyName ∈ lw_gtb) (hk2 : Cond.native arraycopyName ∈ lw_gtb) (hk3 : Cond.static arraycopyName ∈ lw_gtb) (hk4 : Cond.initialized "java/lang/System" ∈ lw_gtb)
    (he0 : h a0 = some (iA G n0 f)) (he1 : h a = some (iA G n1 g)) (h1 : ¬ sp < 0) (h2 : ¬ dp < 0) (h3 : ¬ i < 0) (h4 : sp.toNatClampNeg + i.toNatClampNeg ≤ n0) (h5 : dp.toNatClampNeg + i.toNatClampNeg ≤ n1) (hf : 1 ≤ R.frames) (hl8 : (st.map fun v => v.category).sum + (nativeFrameWords "java/lang/System" "arraycopy" 5 + 11) ≤ R.locals)
    (kk : V G l own mn cc mL ret R E Qc sz k n nx L st (hset h a (iA G n1 (va_cpy f g sp.toNatClampNeg dp.toNatClampNeg i.toNatClampNeg)))) : V G l own mn cc mL ret R E Qc sz k n pc L (.int i :: .int dp :: .ref a :: .int sp :: .ref a0 :: st) h := by
  obtain ⟨hd, rfl⟩ := hd
  intro p e s m args below meth c A H locs ls C hE hF hz hh hS hA hl
  have tb := C.2.2.2.2.2.2.1
  obtain ⟨ws, hr, hP, hD⟩ := hh
  obtain ⟨q0, hq0⟩ := (hr a0 _).mp he0
  obtain ⟨q1, hq1⟩ := (hr a _).mp he1
  exact va_copyi C.1 C.2.1 (by rw [C.2.2.1]; exact hl.1.symm) C.2.2.2.1 (tb _ hk1) (tb _ hk2) (tb _ hk3) (tb _ hk4) C.2.2.2.2.2.2.2.1 hP hD hS.at q0 q1 0 0 hq0 hq1 rfl rfl rfl h1 h2 h3 h4 h5 (fun _ _ => rfl) hf hl8 hd (fun H1 locs1 hP1 hD1 hS1 => W_sz (fun hle => by
    have h1 := hS1.1
    exact kk p e s m args below meth c A H1 locs1 ls C hE hF ⟨hz.1, by omega⟩ ⟨_, hRel_set hr hD hq1, hP1, hD1⟩ (hS.tr hS1) hA hl))
theorem V_tIn {dflt lo hi : Int} {offs : Array Int} {len : Nat} {x : Int32} {off : Int} (hd : decode cc pc = .ok (.tableswitch dflt lo hi offs, len)) (h1 : ¬ x.toInt < lo) (h2 : ¬ hi < x.toInt) (ho : offs[(x.toInt - lo).toNat]? = some off) (ht : (pc : Int) + off = (tg : Int))
    (kk : V G l own mn cc mL ret R E Qc sz k n tg L st h) : V G l own mn cc mL ret R E Qc sz k n pc L (.int x :: st) h :=
  fun p e s m args below meth c A H locs ls C hE hF hz hh hS hA hl => lv_tableIn C.1 C.2.1 hd h1 h2 ho ht (kk p e s m args below meth c A H locs ls C hE hF hz hh hS hA hl)
theorem V_tOut {dflt lo hi : Int} {offs : Array Int} {len : Nat} {x : Int32} (hd : decode cc pc = .ok (.tableswitch dflt lo hi offs, len)) (h0 : x.toInt < lo ∨ hi < x.toInt) (ht : (pc : Int) + dflt = (tg : Int))
    (kk : V G l own mn cc mL ret R E Qc sz k n tg L st h) : V G l own mn cc mL ret R E Qc sz k n pc L (.int x :: st) h :=
  fun p e s m args below meth c A H locs ls C hE hF hz hh hS hA hl => lv_tableOut C.1 C.2.1 hd h0 ht (kk p e s m args below meth c A H locs ls C hE hF hz hh hS hA hl)
theorem V_look {dflt : Int} {ps : Array (Int × Int)} {len : Nat} {x : Int32} {off : Int} (hd : decode cc pc = .ok (.lookupswitch dflt ps, len)) (hp : (ps.toList.zip (ps.toList.drop 1)).all (fun (a, next) => a.1 < next.1) = true) (ho : Op.lookupswitch.offset ps.toList dflt x.toInt = off) (ht : (pc : Int) + off = (tg : Int))
    (kk : V G l own mn cc mL ret R E Qc sz k n tg L st h) : V G l own mn cc mL ret R E Qc sz k n pc L (.int x :: st) h :=
  fun p e s m args below meth c A H locs ls C hE hF hz hh hS hA hl => lv_lookup C.1 C.2.1 hd hp ho ht (kk p e s m args below meth c A H locs ls C hE hF hz hh hS hA hl)

end ROWS2
end
